/-! PURE, the class: Witness: assigns -/
section CWA
variable {cm np ns : Nat} {pa sa : Nat → Nat} {pp : Nat → px_PR} {ss : Nat → px_SR} {v1 v2 v3 v4 v5 v6 v7 v8 v9 : Int32} {q_o l_o : Nat} {o_r : Int32} {g_o g_t : Nat → Int32} {mm : Nat → px_MR} {a0 a1 n R g r q : Nat} {ρ ρ' : Nat → Nat} {nk ng : Nat}
theorem w_spN {K c e x : Nat} {k φ ψ : Nat → Nat} (hg : g ≤ 12) (hk : x_kp K g k) (he : e < g) (h : w_P ρ ρ' g k c g ψ) (hag : ∀ i, i < e → ψ i = φ i) (hx : ψ e = x) : w_sp (w_np (w_gb ρ' r) g) (w_np (w_hb ρ g k c r) g) φ e x = true := by
  unfold w_sp
  rw [decide_eq_true (show w_np (w_gb ρ' r) g e e = w_np (w_hb ρ g k c r) g x x by rw [← hx]; exact w_pairs hg hk h he he), decide_eq_true (fun i hi => by rw [← hx, ← hag i hi]; exact w_pairs hg hk h he (by omega))]
  rfl
theorem w_srN {K c e x : Nat} {k φ ψ : Nat → Nat} (hK : K < 2 ^ 12) (hk : x_kp K g k) (hc : ∀ j, c.testBit j = true → K.testBit j = false) (he : e < g) (h : w_P ρ ρ' g k c g ψ) (hag : ∀ i, i < e → ψ i = φ i) (hx : ψ e = x) : w_sr ρ ρ' g K k c φ e x = true := by
  refine decide_eq_true (fun S hS => ?_)
  have e1 : x_im e (fun i => k (φ i)) S = x_im e (fun i => k (ψ i)) S := x_imc (fun i hi => by rw [hag i hi])
  have h1 := w_Pr (w_Pm (show e + 1 ≤ g by omega) h) hS
  rw [hx, ← e1] at h1
  refine ⟨h1, ?_⟩
  have hS2 : S ||| 2 ^ e < 2 ^ g := Nat.or_lt_two_pow (Nat.lt_of_lt_of_le hS (Nat.pow_le_pow_right (by decide) (by omega))) (Nat.pow_lt_pow_right (by decide) he)
  have h2 := w_co hK hk hc h hS2
  have hS3 : S ||| 2 ^ e < 2 ^ (e + 1) := Nat.or_lt_two_pow (Nat.lt_of_lt_of_le hS (Nat.pow_le_pow_right (by decide) (by omega))) (Nat.pow_lt_pow_right (by decide) (by omega))
  rw [x_ims (show e + 1 ≤ g by omega) hS3, x_imw hS, hx, ← e1, Nat.or_assoc, Nat.or_comm (2 ^ k x) c, ← Nat.or_assoc] at h2
  exact h2
theorem c_assigns {gk gp gq : Nat → Int32} {K c : Nat} {k : Nat → Nat} (hM : w_M cm mm a0 a1 n R g r ρ ρ') (hgk : ∀ S, S < 2 ^ g → gk S = nI (x_sd g k S)) (hk : x_kp K g k) (hK : K < 2 ^ n) (hc : c < 2 ^ n) (hcK : ∀ j, c.testBit j = true → K.testBit j = false) (hgn : g ≤ n) (hnk : 2 ^ n ≤ nk) (hng : 2 ^ n ≤ ng) (hgp : ∀ e f, e < g → f < g → gp (12 * e + f) = nI (w_np (w_gb ρ' r) g e f)) (hgq : ∀ e f, e < g → f < g → gq (12 * e + f) = nI (w_np (w_hb ρ g k c r) g e f)) :
    ∀ (d e T : Nat) (φ : Nat → Nat) (gi gg : Nat → Int32) (post : Int32 → Option Nat → Option Nat → Int32 → Int32 → Int32 → Int32 → Int32 → Int32 → Int32 → Int32 → Int32 → (Nat → Int32) → (Nat → Int32) → (Nat → Int32) → (Nat → Int32) → (Nat → Int32) → Nat → Nat → Int32 → (Nat → Int32) → (Nat → Int32) → (Nat → px_MR) → Prop), e ≤ g → g < e + d → (∀ i, i < e → gi i = nI (φ i)) → w_P ρ ρ' g k c e φ → (∀ S, S < 2 ^ e → gg S = nI (x_im e (fun i => k (φ i)) S ||| c)) → T < 2 ^ 12 → (∀ x, x < g → (T.testBit x = true ↔ ∃ i, i < e ∧ φ i = x)) →
    (∀ φ' gi' gg' t', w_L ρ ρ' g k c e φ φ' → (∀ i, i < g → gi' i = nI (φ' i)) → post 1 (some a0) (some a1) v1 v2 v3 v4 (nI K) (nI (ρ c)) (nI c) v8 t' gi' gp gq gk gg' q_o l_o o_r g_o g_t mm) →
    ((¬ ∃ ψ, w_P ρ ρ' g k c g ψ ∧ ∀ i, i < e → ψ i = φ i) → ∀ gi' gg', (∀ i, i < e → gi' i = gi i) → (∀ S, S < 2 ^ e → gg' S = gg S) → post 0 (some a0) (some a1) v1 v2 v3 v4 (nI K) (nI (ρ c)) (nI c) v8 (nI T) gi' gp gq gk gg' q_o l_o o_r g_o g_t mm) →
    w305_wp nk ng cm np ns pa sa pp ss d post (nI e) (some a0) (some a1) v1 v2 v3 v4 (nI K) (nI (ρ c)) (nI c) v8 (nI T) gi gp gq gk gg q_o l_o o_r g_o g_t mm := by
  have hM' := hM
  obtain ⟨m1, m2, m3, m4, m5, m6, m7, m8, m9, m10, m11, m12, m13, m14, m15, m16, m17, m18⟩ := hM
  have hp := b_p12 m3
  have hK12 : K < 2 ^ 12 := by omega
  intro d
  induction d with
  | zero => intro e T φ gi gg post he hd; omega
  | succ d ihd =>
    intro e T φ gi gg post he hd hgi hP hgg hT hTb h1 h0
    refine ⟨fun q => by simp at q, fun a q => ?_⟩
    cases q
    rw [m7]
    refine ⟨m2, fun w => ⟨g + 1, ?_⟩, fun w => ⟨rfl, ?_⟩⟩
    · have heg : e < g := (nI_ltI (by omega) (by omega)).1 w
      have main : ∀ (u x : Nat) (gi gg : Nat → Int32), x + u = g → (∀ i, i < e → gi i = nI (φ i)) → (∀ S, S < 2 ^ e → gg S = nI (x_im e (fun i => k (φ i)) S ||| c)) → (∀ y, y < x → ¬ ∃ h, w_P ρ ρ' g k c g h ∧ (∀ i, i < e → h i = φ i) ∧ h e = y) → ((¬ ∃ ψ, w_P ρ ρ' g k c g ψ ∧ ∀ i, i < e → ψ i = φ i) → ∀ gi' gg', (∀ i, i < e → gi' i = gi i) → (∀ S, S < 2 ^ e → gg' S = gg S) → post 0 (some a0) (some a1) v1 v2 v3 v4 (nI K) (nI (ρ c)) (nI c) v8 (nI T) gi' gp gq gk gg' q_o l_o o_r g_o g_t mm) → w305_L15 nk ng cm np ns pa sa pp ss (w305_wp nk ng cm np ns pa sa pp ss d) post (u + 1) (nI e) (nI x) (some a0) (some a1) v1 v2 v3 v4 (nI K) (nI (ρ c)) (nI c) v8 (nI T) gi gp gq gk gg q_o l_o o_r g_o g_t mm := by
        intro u
        induction u with
        | zero =>
          intro x gi gg hx hgi hgg hno h0
          refine ⟨fun q => by simp at q, fun a q => ?_⟩
          cases q
          rw [m7]
          refine ⟨m2, fun _ => ⟨rfl, h0 ?_ gi gg (fun _ _ => rfl) (fun _ _ => rfl)⟩, fun w => absurd (nI_le (by omega) (by omega)) w⟩
          intro ⟨ψ, hψ, hag⟩
          exact hno (ψ e) (by have := hψ.1 e heg; omega) ⟨ψ, hψ, hag, rfl⟩
        | succ u ih =>
          intro x gi gg hx hgi hgg hno h0
          have hxg : x < g := by omega
          have skip : ∀ gi' gg' : Nat → Int32, (∀ i, i < e → gi' i = gi i) → (∀ S, S < 2 ^ e → gg' S = gg S) → (¬ ∃ h, w_P ρ ρ' g k c g h ∧ (∀ i, i < e → h i = φ i) ∧ h e = x) → w305_L98 (w305_L15 nk ng cm np ns pa sa pp ss (w305_wp nk ng cm np ns pa sa pp ss d) post (u + 1)) nk ng cm np ns pa sa pp ss (w305_wp nk ng cm np ns pa sa pp ss d) post (nI e) (nI x) (some a0) (some a1) v1 v2 v3 v4 (nI K) (nI (ρ c)) (nI c) v8 (nI T) gi' gp gq gk gg' q_o l_o o_r g_o g_t mm := by
            intro gi' gg' hgi' hgg' hx' z ez
            rw [ez, nI_1]
            refine ih (x + 1) gi' gg' (by omega) (fun i hi => by rw [hgi' i hi]; exact hgi i hi) (fun S hS => by rw [hgg' S hS]; exact hgg S hS) (fun y hy => ?_) (fun hn gi2 gg2 a b => h0 hn gi2 gg2 (fun i hi => by rw [a i hi, hgi' i hi]) (fun S hS => by rw [b S hS, hgg' S hS]))
            by_cases q2 : y = x
            · rw [q2]; exact hx'
            · exact hno y (by omega)
          refine ⟨fun q => by simp at q, fun a q => ?_⟩
          cases q
          rw [m7]
          refine ⟨m2, fun w => absurd w (nI_ge (by omega) (by omega)), fun _ => ⟨fun w => ?_, fun w => ?_⟩⟩
          · have hb : T.testBit x = true := by
              cases hh : T.testBit x with
              | true => rfl
              | false => exact absurd ((b_bit0 (by omega) (by omega)).2 hh) w
            obtain ⟨i, i1, i2⟩ := (hTb x hxg).1 hb
            refine skip gi gg (fun _ _ => rfl) (fun _ _ => rfl) (fun ⟨ψ, p1, p2, p3⟩ => ?_)
            have := p1.2.1 i e (by omega) heg (by rw [p2 i i1, i2, p3])
            omega
          · rw [b_bit0 (by omega) (by omega)] at w
            have hnx : ∀ i, i < e → φ i ≠ x := by
              intro i hi hh
              have := (hTb x hxg).2 ⟨i, hi, hh⟩
              rw [w] at this
              exact absurd this (by decide)
            refine c_sameP m4 heg hxg (fun i hi => ⟨hgi i hi, hP.1 i hi⟩) hgp hgq (fun _ _ => w_npl m4) (fun _ _ => w_npl m4) ⟨fun w2 => ?_, fun w2 => ?_⟩
            · refine skip gi gg (fun _ _ => rfl) (fun _ _ => rfl) (fun ⟨ψ, p1, p2, p3⟩ => ?_)
              rw [w_spN (r := r) m4 hk heg p1 p2 p3] at w2
              exact t_10 w2
            · refine c_sameR hM' hgk hk hK hc hgn hnk hng heg hxg hP.1 hgg (fun gg' hgg' hnew => ⟨fun w3 => ?_, fun w3 => ⟨b_in (by omega) (by omega), fun z44 e44 => ?_⟩⟩)
              · refine skip gi gg' (fun _ _ => rfl) hgg' (fun ⟨ψ, p1, p2, p3⟩ => ?_)
                rw [w_srN hK12 hk hcK heg p1 p2 p3] at w3
                exact t_10 w3
              · have hsr : w_sr ρ ρ' g K k c φ e x = true := by
                  cases hh : w_sr ρ ρ' g K k c φ e x
                  · rw [hh] at w3; exact absurd rfl w3
                  · rfl
                have hsr' := of_decide_eq_true hsr
                have hnew := hnew hsr
                have fe : va_up φ e x e = x := va_up_self _ _ _
                have fi : ∀ i, i < e → va_up φ e x i = φ i := fun i hi => va_up_ne _ _ (by omega)
                have eim : ∀ S, x_im e (fun i => k (va_up φ e x i)) S = x_im e (fun i => k (φ i)) S := fun S => x_imc (fun i hi => by rw [fi i hi])
                have hP2 : w_P ρ ρ' g k c (e + 1) (va_up φ e x) := by
                  refine w_Ps (w_Pc (fun i hi => (fi i hi).symm) hP) (by rw [fe]; exact hxg) (fun i hi => by rw [fi i hi, fe]; exact hnx i hi) (fun S hS => ?_)
                  rw [eim, fe]
                  exact (hsr' S hS).1
                have hpx : 2 ^ x < 2 ^ 12 := Nat.pow_lt_pow_right (by decide) (by omega)
                rw [b_sh (by omega), b_or] at e44
                rw [e44, nI_1, nI_clamp (by omega)]
                have hT2 : ∀ y, y < g → ((T ||| 2 ^ x).testBit y = true ↔ ∃ i, i < e + 1 ∧ va_up φ e x i = y) := by
                  intro y hy
                  rw [Nat.testBit_or, Nat.testBit_two_pow, Bool.or_eq_true, hTb y hy]
                  constructor
                  · intro hh
                    rcases hh with ⟨i, i1, i2⟩ | hh
                    · exact ⟨i, by omega, by rw [fi i i1, i2]⟩
                    · exact ⟨e, by omega, by rw [fe]; exact of_decide_eq_true hh⟩
                  · intro ⟨i, i1, i2⟩
                    by_cases q2 : i = e
                    · right; rw [q2, fe] at i2; exact decide_eq_true i2
                    · left; exact ⟨i, by omega, by rw [fi i (by omega)] at i2; exact i2⟩
                refine ihd (e + 1) (T ||| 2 ^ x) (va_up φ e x) _ gg' _ (by omega) (by omega) (fun i hi => ?_) hP2 (fun S hS => ?_) (Nat.or_lt_two_pow hT hpx) hT2 (fun φ' gi' gg2 t' hL hgi' => ⟨fun k => t_10 k, fun _ => ⟨rfl, ?_⟩⟩) (fun hn2 gi' gg2 a2 b2 => ⟨fun _ z68 e68 => ?_, fun k => absurd rfl k⟩)
                · by_cases q2 : i = e
                  · rw [q2, pk_us, fe]
                  · rw [pk_un q2, fi i (by omega)]; exact hgi i (by omega)
                · rcases x_lt2 hS with q2 | ⟨S', hS', eS⟩
                  · rw [hgg' S q2, hgg S q2, x_ims (Nat.le_succ e) q2, eim]
                  · rw [eS, hnew S' hS', x_imw hS', eim, fe, Nat.or_assoc, Nat.or_comm c (2 ^ k x), ← Nat.or_assoc]
                · exact h1 φ' gi' gg2 t' (w_Ls heg hno hL) hgi'
                · have e69 : z68 = nI T := by
                    rw [e68, b_sh (by omega), b_xor]
                    congr 1
                    have : T ||| 2 ^ x = T ^^^ 2 ^ x := by
                      have := b_ortf w
                      rw [this]; rfl
                    rw [this, Nat.xor_assoc, Nat.xor_self, Nat.xor_zero]
                  rw [e69]
                  refine skip gi' gg2 (fun i hi => by rw [a2 i (by omega), pk_un (by omega)]) (fun S hS => by rw [b2 S (Nat.lt_of_lt_of_le hS (Nat.pow_le_pow_right (by decide) (by omega))), hgg' S hS]) (fun ⟨ψ, p1, p2, p3⟩ => hn2 ⟨ψ, p1, fun i hi => ?_⟩)
                  by_cases q2 : i = e
                  · rw [q2, fe]; exact p3
                  · rw [fi i (by omega)]; exact p2 i (by omega)
      exact main g 0 gi gg (by omega) hgi hgg (fun y hy => absurd hy (Nat.not_lt_zero y)) h0
    · have heg : e = g := by
        by_cases q2 : e < g
        · exact absurd (nI_lt q2 (by omega)) w
        · omega
      subst heg
      exact h1 φ gi gg (nI T) ⟨hP, fun _ _ => rfl, fun h hh hag => Or.inl hag⟩ hgi
end CWA
