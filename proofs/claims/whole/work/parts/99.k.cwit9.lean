/-! PURE, the class: Witness: finds -/
/-- the witness is looked for anew, and not refused by the ranks -/
def w_slow (s0 s1 v1 v2 : Int32) (n R g r : Nat) : Prop := (¬ (s0 = v1 ∧ s1 = v2)) ∧ r ≤ R ∧ g - r ≤ n - R
section CFN
variable {n R g r : Nat} {b b' : Nat → Bool} {cm np ns : Nat} {pa sa : Nat → Nat} {pp : Nat → px_PR} {ss : Nat → px_SR} {v1 v2 v3 v4 v5 v6 v7 v8 v9 : Int32} {q_o l_o : Nat} {o_r : Int32} {g_o g_t : Nat → Int32} {mm : Nat → px_MR} {a0 a1 q : Nat} {mc ms l : Nat}
theorem w_MB {mm' : Nat → px_MR} (ha0 : a0 < cm) (ha1 : a1 < cm) (hB : c_B (mm' a0) n R b) (hD : c_B (mm' a1) g r b') (hRb : c_R (mm' a0) n b) (hRd : c_R (mm' a1) g b') : w_M cm mm' a0 a1 n R g r (x_rk b) (x_rk b') := by
  have hRle : ∀ {n R : Nat} {b : Nat → Bool}, x_M n R b → R ≤ n := by
    intro n R b h
    obtain ⟨B, hB⟩ := h.2.1
    have h1 := h.2.2.1 B hB
    have := x_nlen h.1 h1.1
    omega
  refine ⟨ha0, ha1, hB.2.2.1.1, hD.2.2.1.1, hB.1, hB.2.1, hD.1, hD.2.1, hRb.2.1, hRd.2.1, hD.2.2.2.1, hRb.2.2, hRd.2.2, fun S hS => ?_, fun S => ?_, fun S => ?_, hRle hB.2.2.1, hRle hD.2.2.1⟩
  · rw [w_gbb hD.2.2.1 hS]
    have h1 := hD.2.2.2.2.1 S hS
    constructor
    · intro h2
      cases q : b' S with
      | false => rfl
      | true => exact absurd h2 (h1.1 q)
    · intro h2
      by_cases q : (mm' a1).2.2.2.1 6 S = 0
      · exact q
      · have := h1.2 q
        rw [h2] at this
        exact absurd this (by decide)
  · exact Nat.le_trans (x_rkn S) (x_nle S)
  · exact Nat.le_trans (x_rkn S) (x_nle S)
theorem c_finds {post : Int32 → Nat → Nat → Nat → Nat → Nat → Nat → Option Nat → Option Nat → Int32 → Int32 → Int32 → Int32 → Int32 → Int32 → Int32 → Int32 → Int32 → (Nat → Int32) → (Nat → Int32) → (Nat → Int32) → (Nat → Int32) → (Nat → Int32) → (Nat → Int32) → Nat → Nat → Int32 → (Nat → Int32) → (Nat → Int32) → (Nat → px_MR) → Prop} {qk qr qg : Nat} {vh vg : Option Nat} {gi gp gq gk gr gg : Nat → Int32} (ha0 : a0 < cm) (ha1 : a1 < cm) (hB : c_B (mm a0) n R b) (hD : c_B (mm a1) g r b') (hKb : c_K (mm a0) n b) (hKd : c_K (mm a1) g b') (hsame : a1 = a0 → g = n ∧ r = R ∧ b' = b) (hl : l ≤ 4096) (ho : o_Ok l_o o_r g_o g_t q) (hnq : n ≤ q) (hmc : w_slow ((mm a0).2.1 11) ((mm a1).2.1 11) v1 v2 n R g r → c_mrc mm a0 a1 n g l ≤ mc) (hms : w_slow ((mm a0).2.1 11) ((mm a1).2.1 11) v1 v2 n R g r → c_mrs mm a0 a1 n g l ≤ ms)
    (hold : (mm a0).2.1 11 = v1 → (mm a1).2.1 11 = v2 → w_ans b b' n g v4 v7 v8 gi)
    (h : ∀ fd qk' qr' qg' l' vh' vg' gb' kp' lo' co' de' ta' gi' gp' gq' gk' gr' gg' mm', w_ans b b' n g fd co' de' gi' → c_JG mm mm' a0 a1 n g b b' → ((w_slow ((mm a0).2.1 11) ((mm a1).2.1 11) v1 v2 n R g r ∧ l' = max l (2 ^ n) ∧ c_R (mm' a0) n b ∧ c_R (mm' a1) g b') ∨ ((¬ w_slow ((mm a0).2.1 11) ((mm a1).2.1 11) v1 v2 n R g r) ∧ l' = l ∧ mm' = mm)) → (vh' = vh ∨ vh' = some a0) → (vg' = vg ∨ vg' = some a1) → post fd qk' qr' qg' l' l' l' vh' vg' ((mm a0).2.1 11) ((mm a1).2.1 11) gb' fd kp' lo' co' de' ta' gi' gp' gq' gk' gr' gg' q_o l_o o_r g_o g_t mm') :
    w296_wp a0 a1 cm np ns pa sa pp ss mc ms post qk qr qg l l l vh vg v1 v2 v3 v4 v5 v6 v7 v8 v9 gi gp gq gk gr gg q_o l_o o_r g_o g_t mm := by
  have hn := hB.2.2.1.1
  have hg := hD.2.2.1.1
  have hp := b_p12 hn
  have hp0 := Nat.two_pow_pos n
  have hRn : R ≤ n := by
    obtain ⟨B, hBb⟩ := hB.2.2.1.2.1
    have h1 := hB.2.2.1.2.2.1 B hBb
    have := x_nlen hn h1.1
    omega
  have hrg : r ≤ g := by
    obtain ⟨B, hBb⟩ := hD.2.2.1.2.1
    have h1 := hD.2.2.1.2.2.1 B hBb
    have := x_nlen hg h1.1
    omega
  have hJr : c_JG mm mm a0 a1 n g b b' := ⟨fun _ _ _ => rfl, Or.inl rfl, Or.inl rfl⟩
  have none0 : (¬ ∃ K c f, w_E b b' n g K c f) → (¬ w_slow ((mm a0).2.1 11) ((mm a1).2.1 11) v1 v2 n R g r) → ∀ (z53 z54 : Int32) (kc ks : Nat), z53 = (mm a0).2.1 11 → z54 = (mm a1).2.1 11 → w296_L114 a0 a1 cm np ns pa sa pp ss mc ms post qk qr qg l l l (some a0) (some a1) z53 z54 v3 0 v5 v6 v7 v8 v9 gi gp gq gk gr gg q_o l_o o_r g_o g_t mm kc ks := by
    intro hno hsl z53 z54 kc ks e1 e2
    rw [e1, e2]
    exact ⟨rfl, h 0 qk qr qg l _ _ v3 v5 v6 v7 v8 v9 gi gp gq gk gr gg mm (Or.inl ⟨rfl, hno⟩) hJr (Or.inr ⟨hsl, rfl, rfl⟩) (Or.inr rfl) (Or.inr rfl)⟩
  have l27 : (¬ ((mm a0).2.1 11 = v1 ∧ (mm a1).2.1 11 = v2)) → w296_L27 a0 a1 cm np ns pa sa pp ss mc ms post qk qr qg l l l vh vg v1 v2 v3 v4 v5 v6 v7 v8 v9 gi gp gq gk gr gg q_o l_o o_r g_o g_t mm 0 0 := by
    intro hns
    unfold w296_L27
    rw [hB.1, hB.2.1, hD.1, hD.2.1, nI_subn hrg, nI_subn hRn]
    refine ⟨ha0, fun z53 e53 => ⟨ha1, fun z54 e54 => ⟨ha1, ha0, fun w => ?_, fun w => ⟨ha1, ha1, ha0, ha0, fun w2 => ?_, fun w2 => ?_⟩⟩⟩⟩
    · have hlt := (nI_ltI (by omega) (by omega)).1 w
      exact none0 (fun ⟨K, c, f, hE⟩ => by have := (w_ER hB.2.2.1 hD.2.2.1 hE).1; omega) (fun hs => by have := hs.2.1; omega) z53 z54 _ _ e53 e54
    · have hrR : r ≤ R := by
        by_cases k : r ≤ R
        · exact k
        · exact absurd (nI_lt (by omega) (by omega)) w
      have hcr : g - r ≤ n - R := (nI_leI (by omega) (by omega)).1 w2
      have hslow : w_slow ((mm a0).2.1 11) ((mm a1).2.1 11) v1 v2 n R g r := ⟨hns, hrR, hcr⟩
      have hmc := hmc hslow
      have hms := hms hslow
      refine ⟨c_mrc mm a0 a1 n g l, c_mrs mm a0 a1 n g l, by omega, by omega, c_makeRoom ha0 ha1 hB hD hKb hKd hsame hl (Nat.le_refl _) (Nat.le_refl _) (fun mm' qk' qr' qg' gk' gr' gg' hJ hRb hRd => ?_)⟩
      have hB' := c_ZB hB hJ.2.1
      have hD' := c_ZB hD hJ.2.2
      have hM := w_MB (cm := cm) ha0 ha1 hB' hD' hRb hRd
      have hLn : 2 ^ n ≤ max l (2 ^ n) := Nat.le_max_right _ _
      have hL2 : max l (2 ^ n) < 2 ^ 31 := by omega
      generalize hLL : max l (2 ^ n) = LL at *
      refine c_cguest (b := w_gb (x_rk b') r) ha1 hg hD'.1 hD'.2.2.2.1 hM.2.2.2.2.2.2.2.2.2.2.2.2.2.1 (fun gp' hgp' => ⟨fun k => by simp at k, fun a k => ?_⟩)
      cases k
      refine ⟨ha0, fun k => by simp at k, fun a k => ?_⟩
      cases k
      rw [hB'.1, hD'.1, nI_1]
      by_cases hgn : g ≤ n
      · refine ⟨ha1, c_ostart ho hnq (by omega) ⟨ha0, ha1, c_ostart ho hnq (by omega) ⟨x_st n (g + 1) - x_st n g + 1, ?_⟩⟩⟩
        have hst := x_stl (m := n) (j := g + 1) hn
        have hst0 := x_stm (n := n) (j := g) (k := g + 1) (Nat.le_succ g)
        rw [e53, e54]
        have done : ∀ (x3 x4 : Int32) (fd kp' lo' co' de' ta' : Int32) (gi' gq' gk' gr' gg' : Nat → Int32) (kc ks : Nat), w_ans b b' n g fd co' de' gi' → fd = 0 ∨ fd = 1 → w296_L225 a0 a1 cm np ns pa sa pp ss mc ms post x3 x4 qk' qr' qg' LL LL LL (some a0) (some a1) ((mm a0).2.1 11) ((mm a1).2.1 11) (nI (w_nb (w_gb (x_rk b') r) g)) fd kp' lo' co' de' ta' gi' gp' gq' gk' gr' gg' q_o l_o o_r g_o g_t mm' kc ks := by
          intro x3 x4 fd kp' lo' co' de' ta' gi' gq' gk' gr' gg' kc ks hA hfd
          refine ⟨?_, h fd qk' qr' qg' LL _ _ _ kp' lo' co' de' ta' gi' gp' gq' gk' gr' gg' mm' hA hJ (Or.inl ⟨hslow, rfl, hRb, hRd⟩) (Or.inr rfl) (Or.inr rfl)⟩
          rcases hfd with k | k <;> rw [k] <;> rfl
        have main : ∀ (u i : Nat) (kp' lo' co' de' ta' : Int32) (gi' gq' gk' gr' gg' : Nat → Int32) (kc ks : Nat), i + u = x_st n (g + 1) → x_st n g ≤ i → (∀ j, x_st n g ≤ j → j < i → ¬ ∃ c f, w_E b b' n g (x_or n j) c f) → w296_L171 a0 a1 cm np ns pa sa pp ss mc ms post (u + 1) (nI (x_st n (g + 1))) (nI i) qk' qr' qg' LL LL LL (some a0) (some a1) ((mm a0).2.1 11) ((mm a1).2.1 11) (nI (w_nb (w_gb (x_rk b') r) g)) 0 kp' lo' co' de' ta' gi' gp' gq' gk' gr' gg' q_o l_o o_r g_o g_t mm' kc ks := by
          intro u
          induction u with
          | zero =>
            intro i kp' lo' co' de' ta' gi' gq' gk' gr' gg' kc ks hi hi0 hno
            refine ⟨fun _ => ⟨fun _ => done _ _ 0 kp' lo' co' de' ta' gi' gq' gk' gr' gg' kc ks (Or.inl ⟨rfl, fun ⟨K, c, f, hE⟩ => ?_⟩) (Or.inl rfl), fun k => absurd rfl k⟩, fun w => absurd (nI_le (by omega) (by omega)) w⟩
            obtain ⟨j, hj, ej⟩ := x_orx hn hE.1
            have := (x_sti (m := g) hn hj).2 (by rw [ej]; exact hE.2.1)
            exact hno j this.1 (by omega) ⟨c, f, by rw [ej]; exact hE⟩
          | succ u ih =>
            intro i kp' lo' co' de' ta' gi' gq' gk' gr' gg' kc ks hi hi0 hno
            have hil : i < 2 ^ n := by omega
            have horl := (x_orl hn hil).1
            have hKg : x_n (x_or n i) = g := (x_sti (m := g) hn hil).1 ⟨hi0, by omega⟩
            obtain ⟨k, hk⟩ := x_kpE (x_or n i)
            rw [hKg] at hk
            refine ⟨fun w => absurd w (nI_ge (by omega) (by omega)), fun _ => ⟨fun k => absurd rfl k, fun _ => ⟨fun k => by simp at k, fun a k2 => ?_⟩⟩⟩
            cases k2
            rw [hB'.1]
            refine ⟨ha0, c_oset ho hnq hil (c_findsOn (k := k) (φ0 := fun _ => 0) hM hB.2.2.1 hD.2.2.1 hgn hrR (by omega) horl hKg hk hLn hLn hLn hL2 hL2 ho hnq hgp' (fun c φ' t' gi2 gq2 gk2 gr2 gg2 hC hmin hL hgi2 hgk2 => ⟨⟨rfl, rfl⟩, fun z ez => ?_⟩) (fun hnone l2 c2 t2 gi2 gq2 gk2 gr2 gg2 => ⟨⟨rfl, rfl⟩, fun z ez => ?_⟩))⟩
            · have fin : w_ans b b' n g 1 (nI c) (nI (x_co n (x_or n i ||| c))) (fun e => if e < g then nI (k (φ' e)) else 0) → ∀ x4, w296_L214 a0 a1 cm np ns pa sa pp ss mc ms post (nI (x_st n (g + 1))) x4 qk' qr' qg' LL LL LL (some a0) (some a1) ((mm a0).2.1 11) ((mm a1).2.1 11) (nI (w_nb (w_gb (x_rk b') r) g)) 1 (nI (x_or n i)) (nI (x_rk b c)) (nI c) (nI (x_co n (x_or n i ||| c))) t' gi2 gp' gq2 gk2 gr2 gg2 q_o l_o o_r g_o g_t mm' kc ks := by
                intro hA x4
                refine ⟨fun k => t_10 k, fun _ => c_numI ha1 hg hD'.1 hk hgk2 (fun e he => ⟨hgi2 e he, hL.1.1 e he⟩) (by have : 2 ^ g ≤ 2 ^ n := Nat.pow_le_pow_right (by decide) hgn; omega) (fun gi3 hgi3 => done _ _ 1 _ _ _ _ _ gi3 _ _ _ _ _ _ ?_ (Or.inr rfl))⟩
                rcases hA with ⟨k, _⟩ | ⟨_, K, c3, f, a1, a2, a3, a4⟩
                · exact t_10 k
                · refine Or.inr ⟨rfl, K, c3, f, a1, a2, a3, fun e he => ?_⟩
                  rw [hgi3 e he, ← a4 e he]
                  exact (if_pos he).symm
              have hA : w_ans b b' n g 1 (nI c) (nI (x_co n (x_or n i ||| c))) (fun e => if e < g then nI (k (φ' e)) else 0) := by
                refine Or.inr ⟨rfl, x_or n i, c, fun e => k (φ' e), ⟨w_EP hg hk horl hKg hC.1 hC.2.1 hL.1, fun K2 c2 f2 hE2 => ?_⟩, rfl, rfl, fun e he => if_pos he⟩
                obtain ⟨j, hj, ej⟩ := x_orx hn hE2.1
                have hj2 := (x_sti (m := g) hn hj).2 (by rw [ej]; exact hE2.2.1)
                rcases Nat.lt_trichotomy j i with k3 | k3 | k3
                · exact absurd ⟨c2, f2, by rw [ej]; exact hE2⟩ (hno j hj2.1 k3)
                · right
                  rw [k3] at ej
                  refine ⟨ej, ?_⟩
                  rw [← ej] at hE2
                  obtain ⟨p1, p2⟩ := w_PE hk hE2
                  have hle := hmin c2 ⟨hE2.2.2.1, hE2.2.2.2.1, _, p1⟩
                  by_cases k4 : x_key c = x_key c2
                  · right
                    have hcc : c = c2 := x_keyi (by have := hC.1; omega) (by have := hE2.2.2.1; omega) k4
                    refine ⟨hcc, ?_⟩
                    rw [← hcc] at p1
                    rcases hL.2.2 _ p1 (fun i hi => absurd hi (Nat.not_lt_zero i)) with k5 | ⟨e, e1, e2, e3⟩
                    · left
                      intro e he
                      show f2 e = k (φ' e)
                      rw [← k5 e he, p2 e he]
                    · right
                      refine ⟨e, e1, fun j hj => ?_, ?_⟩
                      · show f2 j = k (φ' j)
                        rw [← e2 j hj, p2 j (by omega)]
                      · show k (φ' e) < f2 e
                        rw [← p2 e e1]
                        exact hk.1.1 _ _ e3 (p1.1 e e1)
                  · left; omega
                · left
                  rw [← ej]
                  exact x_orp hn k3 hj
              have fin := fin hA
              rw [ez, nI_1]
              cases u with
              | zero => exact ⟨fun _ => fin _, fun _ => ⟨fun _ => fin _, fun k => t_10 k⟩⟩
              | succ u => exact ⟨fun _ => fin _, fun _ => ⟨fun _ => fin _, fun k => t_10 k⟩⟩
            · rw [ez, nI_1]
              refine ih (i + 1) _ _ _ _ _ _ _ _ _ _ kc ks (by omega) (by omega) (fun j j1 j2 => ?_)
              by_cases k3 : j = i
              · rw [k3]
                intro ⟨c, f, hE⟩
                exact hnone ⟨c, hE.2.2.1, hE.2.2.2.1, _, (w_PE hk hE).1⟩
              · exact hno j j1 (by omega)
        exact main (x_st n (g + 1) - x_st n g) (x_st n g) _ _ _ _ _ _ _ _ _ _ _ _ (by omega) (Nat.le_refl _) (fun j j1 j2 => by omega)
      · exfalso
        omega
    · have hlt : n - R < g - r := by
        by_cases k : g - r ≤ n - R
        · exact absurd (nI_le k (by omega)) w2
        · omega
      exact none0 (fun ⟨K, c, f, hE⟩ => by have := w_ER hB.2.2.1 hD.2.2.1 hE; omega) (fun hs => by have := hs.2.2; omega) z53 z54 _ _ e53 e54
  refine ⟨ha0, fun w => l27 (fun z => w z.1), fun w => ⟨ha1, fun w2 => l27 (fun z => w2 z.2), fun w2 => ?_⟩⟩
  have hA := hold w w2
  have hfd : v4 = 0 ∨ v4 = 1 := by
    rcases hA with k | k
    · exact Or.inl k.1
    · exact Or.inr k.1
  refine ⟨by rcases hfd with k | k <;> rw [k] <;> rfl, ?_⟩
  have := h v4 qk qr qg l vh vg v3 v5 v6 v7 v8 v9 gi gp gq gk gr gg mm hA hJr (Or.inr ⟨fun hs => hs.1 ⟨w, w2⟩, rfl, rfl⟩) (Or.inl rfl) (Or.inl rfl)
  rw [w, w2] at this
  exact this
end CFN
