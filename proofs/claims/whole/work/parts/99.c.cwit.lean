/-! PURE, the class: Witness: countPairs, countGuestBases, spread, numberImages, isHostBasis -/
def w_M (cm : Nat) (mm : Nat → px_MR) (a0 a1 n R g r : Nat) (ρ ρ' : Nat → Nat) : Prop := a0 < cm ∧ a1 < cm ∧ n ≤ 12 ∧ g ≤ 12 ∧ (mm a0).2.1 13 = nI n ∧ (mm a0).2.1 14 = nI R ∧ (mm a1).2.1 13 = nI g ∧ (mm a1).2.1 14 = nI r ∧ 2 ^ n ≤ (mm a0).2.2.1 7 ∧ 2 ^ g ≤ (mm a1).2.2.1 7 ∧ 2 ^ g ≤ (mm a1).2.2.1 6 ∧ (∀ S, S < 2 ^ n → (mm a0).2.2.2.1 7 S = nI (ρ S)) ∧ (∀ S, S < 2 ^ g → (mm a1).2.2.2.1 7 S = nI (ρ' S)) ∧ (∀ S, S < 2 ^ g → ((mm a1).2.2.2.1 6 S = 0 ↔ w_gb ρ' r S = false)) ∧ (∀ S, ρ S ≤ 12) ∧ (∀ S, ρ' S ≤ 12) ∧ R ≤ n ∧ r ≤ g
section CWI
variable {cm np ns : Nat} {pa sa : Nat → Nat} {pp : Nat → px_PR} {ss : Nat → px_SR} {v1 v2 v3 v4 v5 v6 v7 v8 v9 : Int32} {q_o l_o : Nat} {o_r : Int32} {g_o g_t : Nat → Int32} {mm : Nat → px_MR} {a0 a1 n R g r : Nat} {ρ ρ' : Nat → Nat} {vh : Option Nat}
def w_in (B e f : Nat) : Nat := if (B.testBit e && B.testBit f) = true then 1 else 0
theorem c_cpairs {post : Option Nat → Option Nat → Int32 → Int32 → Int32 → Int32 → Int32 → Int32 → Int32 → Int32 → Int32 → Nat → Nat → Int32 → (Nat → Int32) → (Nat → Int32) → (Nat → Int32) → (Nat → px_MR) → Prop} {gx : Nat → Int32} {B : Nat} {N : Nat → Nat → Nat} (ha1 : a1 < cm) (hg : g ≤ 12) (hz : (mm a1).2.1 13 = nI g) (hB : B < 2 ^ 31) (hN : ∀ e f, e < g → f < g → gx (12 * e + f) = nI (N e f))
    (h : ∀ gx', (∀ e f, e < g → f < g → gx' (12 * e + f) = nI (N e f + w_in B e f)) → post vh (some a1) v1 v2 v3 v4 v5 v6 v7 v8 v9 q_o l_o o_r g_o g_t gx' mm) : w299_wp 144 cm np ns pa sa pp ss post (nI B) vh (some a1) v1 v2 v3 v4 v5 v6 v7 v8 v9 q_o l_o o_r g_o g_t gx mm := by
  unfold w299_wp
  have main : ∀ (u e : Nat) (gx : Nat → Int32), e + u = g → (∀ e' f, e' < g → f < g → gx (12 * e' + f) = nI (N e' f + if e' < e then w_in B e' f else 0)) → w299_L2 144 cm np ns pa sa pp ss post (u + 1) (nI B) (nI e) vh (some a1) v1 v2 v3 v4 v5 v6 v7 v8 v9 q_o l_o o_r g_o g_t gx mm := by
    intro u
    induction u with
    | zero =>
      intro e gx he hx
      refine ⟨fun q => by simp at q, fun a q => ?_⟩
      cases q
      refine ⟨ha1, fun _ => h gx (fun e' f h1 h2 => ?_), fun q => ?_⟩
      · rw [hx e' f h1 h2, if_pos (by omega)]
      · rw [hz] at q; exact absurd (nI_le (by omega) (by omega)) q
    | succ u ih =>
      intro e gx he hx
      refine ⟨fun q => by simp at q, fun a q => ?_⟩
      cases q
      refine ⟨ha1, fun q => ?_, fun _ => ⟨g + 1, ?_⟩⟩
      · rw [hz] at q; exact absurd q (nI_ge (by omega) (by omega))
      · have inner : ∀ (v f : Nat) (gx : Nat → Int32), f + v = g → (∀ e' f', e' < g → f' < g → gx (12 * e' + f') = nI (N e' f' + if e' < e ∨ (e' = e ∧ f' < f) then w_in B e' f' else 0)) → w299_L16 (w299_L2 144 cm np ns pa sa pp ss post (u + 1)) 144 cm np ns pa sa pp ss post (v + 1) (nI B) (nI e) (nI f) vh (some a1) v1 v2 v3 v4 v5 v6 v7 v8 v9 q_o l_o o_r g_o g_t gx mm := by
          intro v
          induction v with
          | zero =>
            intro f gx hf hx
            refine ⟨fun q => by simp at q, fun a q => ?_⟩
            cases q
            refine ⟨ha1, fun _ z e1 => ?_, fun q => ?_⟩
            · rw [e1, nI_1]
              refine ih (e + 1) gx (by omega) (fun e' f' h1 h2 => ?_)
              rw [hx e' f' h1 h2]
              by_cases w : e' < e + 1
              · rw [if_pos w, if_pos (by omega)]
              · rw [if_neg w, if_neg (by omega)]
            · rw [hz] at q; exact absurd (nI_le (by omega) (by omega)) q
          | succ v ihv =>
            intro f gx hf hx
            refine ⟨fun q => by simp at q, fun a q => ?_⟩
            cases q
            refine ⟨ha1, fun q => ?_, fun _ => ⟨fun w z e1 => ?_, fun w => ?_⟩⟩
            · rw [hz] at q; exact absurd q (nI_ge (by omega) (by omega))
            · rw [b_bit0 hB (by omega)] at w
              rw [e1, nI_1]
              refine ih (e + 1) gx (by omega) (fun e' f' h1 h2 => ?_)
              rw [hx e' f' h1 h2]
              by_cases q : e' = e
              · have : w_in B e' f' = 0 := by unfold w_in; rw [q, w]; rfl
                rw [this]; simp
              · by_cases q2 : e' < e
                · rw [if_pos (Or.inl q2), if_pos (by omega)]
                · rw [if_neg (by omega), if_neg (by omega)]
            · have hb : B.testBit e = true := by
                cases hh : B.testBit e with
                | true => rfl
                | false => exact absurd ((b_bit0 hB (by omega)).2 hh) w
              have e3 : nI e * 12 + nI f = nI (12 * e + f) := by
                rw [show (12 : Int32) = nI 12 from rfl, pk_mul, nI_add, Nat.mul_comm]
              rw [e3, nI_clamp (by omega), b_bit hB (by omega)]
              refine ⟨b_in (by omega) (by omega), fun z3 ez3 => ⟨b_in (by omega) (by omega), fun z4 ez4 => ?_⟩⟩
              rw [ez4, nI_1]
              have ez : z3 = nI (N e f + w_in B e f) := by
                rw [ez3, hx e f (by omega) (by omega), if_neg (by omega), Nat.add_zero]
                unfold w_in
                rw [hb, Bool.true_and]
                cases B.testBit f
                · rw [if_neg (by decide), if_neg (by decide)]
                  exact Int32.add_zero _
                · rw [if_pos rfl, if_pos rfl, nI_1]
              refine ihv (f + 1) _ (by omega) (fun e' f' h1 h2 => ?_)
              by_cases q : 12 * e' + f' = 12 * e + f
              · have q1 : e' = e := by omega
                have q2 : f' = f := by omega
                rw [q1, q2, pk_us, ez, if_pos (by omega)]
              · rw [pk_un q, hx e' f' h1 h2]
                by_cases q2 : e' < e ∨ (e' = e ∧ f' < f)
                · rw [if_pos q2, if_pos (by omega)]
                · rw [if_neg q2, if_neg (by omega)]
        refine inner g 0 gx (by omega) (fun e' f' h1 h2 => ?_)
        rw [hx e' f' h1 h2]
        by_cases w : e' < e
        · rw [if_pos w, if_pos (Or.inl w)]
        · rw [if_neg w, if_neg (by omega)]
  exact ⟨_, main g 0 gx (by omega) (fun e f h1 h2 => by rw [hN e f h1 h2, if_neg (by omega), Nat.add_zero])⟩
theorem c_cguest {post : Option Nat → Option Nat → Int32 → Int32 → Int32 → Int32 → Int32 → Int32 → Int32 → Int32 → Int32 → (Nat → Int32) → Nat → Nat → Int32 → (Nat → Int32) → (Nat → Int32) → (Nat → px_MR) → Prop} {gp : Nat → Int32} {b : Nat → Bool} (ha1 : a1 < cm) (hg : g ≤ 12) (hz : (mm a1).2.1 13 = nI g) (hl : 2 ^ g ≤ (mm a1).2.2.1 6) (hb : ∀ S, S < 2 ^ g → ((mm a1).2.2.2.1 6 S = 0 ↔ b S = false))
    (h : ∀ gp', (∀ e f, e < g → f < g → gp' (12 * e + f) = nI (w_np b g e f)) → post vh (some a1) v1 v2 (nI (w_nb b g)) v4 v5 v6 v7 v8 v9 gp' q_o l_o o_r g_o g_t mm) : w298_wp cm np ns pa sa pp ss post vh (some a1) v1 v2 v3 v4 v5 v6 v7 v8 v9 gp q_o l_o o_r g_o g_t mm := by
  have hp := b_p12 hg
  have hp0 := Nat.two_pow_pos g
  unfold w298_wp
  refine b_fillI (by omega) (fun gp0 hgp _ => ⟨2 ^ g + 1, ?_⟩)
  have main : ∀ (u k : Nat) (gp : Nat → Int32), k + u = 2 ^ g → (∀ e f, e < g → f < g → gp (12 * e + f) = nI (x_cn k (fun B => b B && B.testBit e && B.testBit f))) → w298_L15 cm np ns pa sa pp ss post (u + 1) (nI k) vh (some a1) v1 v2 (nI (x_cn k b)) v4 v5 v6 v7 v8 v9 gp q_o l_o o_r g_o g_t mm := by
    intro u
    induction u with
    | zero =>
      intro k gp hk hx
      refine ⟨fun q => by simp at q, fun a q => ?_⟩
      cases q
      refine ⟨ha1, c_all ha1 hg hz ⟨fun _ => ?_, fun q => absurd (nI_lt (show 2 ^ g - 1 < k by omega) (by omega)) q⟩⟩
      rw [show k = 2 ^ g by omega] at hx ⊢
      exact h gp hx
    | succ u ih =>
      intro k gp hk hx
      refine ⟨fun q => by simp at q, fun a q => ?_⟩
      cases q
      refine ⟨ha1, c_all ha1 hg hz ⟨fun q => absurd q (nI_nlt (by omega) (by omega)), fun _ => ⟨ha1, ha1, b_in (by omega) (by omega), ?_⟩⟩⟩
      rw [nI_clamp (by omega)]
      have ecn : ∀ P : Nat → Bool, x_cn (k + 1) P = x_cn k P + (if P k = true then 1 else 0) := fun _ => rfl
      refine ⟨fun q z e => ?_, fun q z10 e10 => ?_⟩
      · have hbk := (hb k (by omega)).1 q
        rw [e, nI_1]
        have := ih (k + 1) gp (by omega) (fun e f h1 h2 => by rw [hx e f h1 h2, ecn, hbk]; rfl)
        rw [ecn, hbk] at this
        exact this
      · have hbk : b k = true := by
          cases hh : b k with
          | true => rfl
          | false => exact absurd ((hb k (by omega)).2 hh) q
        refine c_cpairs (N := fun e f => x_cn k (fun B => b B && B.testBit e && B.testBit f)) ha1 hg hz (by omega) hx (fun gx' hx' z e => ?_)
        rw [e, nI_1, e10, nI_1]
        have := ih (k + 1) gx' (by omega) (fun e f h1 h2 => by
          rw [hx' e f h1 h2, ecn, hbk, Bool.true_and]
          rfl)
        rw [ecn, hbk, if_pos rfl] at this
        exact this
  exact main (2 ^ g) 0 gp0 (by omega) (fun e f h1 h2 => by rw [hgp (12 * e + f) (by omega)]; rfl)
end CWI
