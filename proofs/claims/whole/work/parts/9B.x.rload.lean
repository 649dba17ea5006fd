/-! PURE, the reference: load -/
section RLO
variable {p n R : Nat} {M : Nat → Nat → Int}
theorem r_Xk {gs gs' : Nat → Int32} {nv nv' : Nat → px_NV} {j : Nat} (hR : R < 13) (hn : n ≤ 12) (hX : r_X p n R gs nv M) (hj : j < n) (h1 : ∀ d, d ≠ 12 * R + j → gs' d = gs d) (h2 : ∀ d, d ≠ 12 * R + j → nv' d = nv d) (h3 : (∃ z, pn_N (nv (12 * R + j)) z) → ∃ z, pn_N (nv' (12 * R + j)) z) : r_X p n R gs' nv' M := by
  refine ⟨fun c hc => ?_, fun i hi j' hj' => ?_⟩
  · by_cases q : c = 12 * R + j
    · rw [q] at hc ⊢; exact h3 (hX.1 _ hc)
    · rw [h2 c q]; exact hX.1 c hc
  · rw [h1 _ (by omega), h2 _ (by omega)]
    exact hX.2 i hi j' hj'
theorem r_ek {gs gs' : Nat → Int32} {nv nv' : Nat → px_NV} {d d' : Nat} {z : Int} (h : r_e p gs nv d z) (h1 : gs' d = gs d) (h2 : nv' d = nv d) : r_e p gs' nv' d z := by
  unfold r_e at h ⊢
  rw [h1, h2]; exact h
/-- what is loaded -/
def x_ld (M K : Nat → Nat → Int) (R c n0 i j : Nat) : Int := if i < R then M i j else if c ≤ j ∧ j < c + n0 then K (i - R) (j - c) else 0
theorem r_load {post : (Nat → Int32) → (Nat → Int32) → (Nat → Int32) → (Nat → Int32) → (Nat → Int32) → (Nat → Int32) → (Nat → px_NV) → Prop} {iv gs ge gr gk gq : Nat → Int32} {nv : Nat → px_NV} {m n0 r0 c : Nat} {K : Nat → Nat → Int} (hp : p = 0 ∨ (1 < p ∧ p < 256)) (hm : m < 26) (hn : n ≤ 12) (hn0 : n0 ≤ 12) (hr0 : r0 ≤ 12) (hcn : c + n0 ≤ n) (hRr : R + r0 ≤ 13) (hge : ge m = nI n0) (hgr : gr m = nI r0) (hK : ∀ i, i < r0 → ∀ j, j < n0 → r_ke p gk gq (144 * m + 12 * i + j) (K i j)) (hiv0 : iv 10 = nI R) (hiv1 : iv 11 = nI n) (hiv2 : iv 12 = nI p) (hX : r_X p n R gs nv M)
    (h : ∀ iv' gs' nv', iv' 10 = nI (R + r0) → (∀ q, q ≠ 10 → iv' q = iv q) → r_X p n (R + r0) gs' nv' (x_ld M K R c n0) → post iv' gs' ge gr gk gq nv') : w67_wp post (nI m) (nI c) iv gs ge gr gk gq nv := by
  have hp256 : p < 256 := by
    rcases hp with q | q
    · rw [q]; decide
    · exact q.2
  have main : ∀ (u i : Nat) (iv1 gs1 : Nat → Int32) (nv1 : Nat → px_NV), i + u = r0 → iv1 10 = nI (R + i) → (∀ q, q ≠ 10 → iv1 q = iv q) → r_X p n (R + i) gs1 nv1 (x_ld M K R c n0) → w67_L2 post (u + 1) (nI m) (nI c) (nI i) iv1 gs1 ge gr gk gq nv1 := by
    intro u
    induction u with
    | zero =>
      intro i iv1 gs1 nv1 hi i1 i2 hX1
      have : i = r0 := by omega
      subst this
      unfold w67_L2
      rw [nI_clamp (show m < 2 ^ 31 by omega), hgr]
      exact ⟨b_in hm (by omega), fun _ => h iv1 gs1 nv1 i1 i2 hX1, fun w => absurd (nI_le (Nat.le_refl i) (by omega)) w⟩
    | succ u ih =>
      intro i iv1 gs1 nv1 hi i1 i2 hX1
      have v11 : iv1 11 = nI n := by rw [i2 11 (by decide)]; exact hiv1
      have v12 : iv1 12 = nI p := by rw [i2 12 (by decide)]; exact hiv2
      have hR13 : R + i < 13 := by omega
      unfold w67_L2
      rw [nI_clamp (show m < 2 ^ 31 by omega), hgr]
      refine ⟨b_in hm (by omega), fun w => absurd w (nI_ge (by omega) (by omega)), fun _ => ⟨n + 1, ?_⟩⟩
      -- the cells
      have cells : ∀ (w j : Nat) (gs2 : Nat → Int32) (nv2 : Nat → px_NV), j + w = n0 → r_X p n (R + i) gs2 nv2 (x_ld M K R c n0) → (∀ j', j' < n → r_e p gs2 nv2 (12 * (R + i) + j') (if c ≤ j' ∧ j' < c + j then K i (j' - c) else 0)) → w67_L44 (w67_L2 post (u + 1)) post (w + 1) (nI m) (nI c) (nI i) (nI j) iv1 gs2 ge gr gk gq nv2 := by
        intro w
        induction w with
        | zero =>
          intro j gs2 nv2 hj hX2 hE
          have : j = n0 := by omega
          subst this
          unfold w67_L44
          rw [nI_clamp (show m < 2 ^ 31 by omega), hge]
          refine ⟨b_in hm (by omega), fun _ z1 e1 z2 e2 => ?_, fun w => absurd (nI_le (Nat.le_refl j) (by omega)) w⟩
          rw [e2, nI_1]
          refine ih (i + 1) _ gs2 nv2 (by omega) (by rw [va_up_self, e1, i1, nI_1]; rfl) (fun q hq => by rw [va_up_ne _ _ hq]; exact i2 q hq) ⟨hX2.1, fun i' hi' j' hj' => ?_⟩
          by_cases q : i' = R + i
          · subst q
            have := hE j' hj'
            unfold r_e at this
            have e : x_ld M K R c j (R + i) j' = (if c ≤ j' ∧ j' < c + j then K i (j' - c) else 0) := by
              unfold x_ld
              rw [if_neg (by omega), show R + i - R = i by omega]
            rw [e]; exact this
          · exact hX2.2 i' (by omega) j' hj'
        | succ w ihw =>
          intro j gs2 nv2 hj hX2 hE
          unfold w67_L44
          rw [nI_clamp (show m < 2 ^ 31 by omega), hge, i1, nI_add]
          refine ⟨b_in hm (by omega), fun w => absurd w (nI_ge (by omega) (by omega)), fun _ => ?_⟩
          refine r_cell hp256 v12 hm (by omega) (by omega) hR13 (by omega) (hK i (by omega) j (by omega)) (fun gs3 nv3 k1 k2 k3 k4 z ez => ?_)
          rw [ez, nI_1]
          refine ihw (j + 1) gs3 nv3 (by omega) (r_Xk hR13 hn hX2 (show c + j < n by omega) k1 k2 k4) (fun j' hj' => ?_)
          by_cases q : j' = c + j
          · rw [q, if_pos (by omega), show c + j - c = j by omega]; exact k3
          · have := hE j' hj'
            have e : (c ≤ j' ∧ j' < c + (j + 1)) ↔ (c ≤ j' ∧ j' < c + j) := by omega
            simp only [e]
            exact r_ek (d' := 0) this (k1 _ (by omega)) (k2 _ (by omega))
      -- the zeros
      have zeros : ∀ (w j : Nat) (gs2 : Nat → Int32) (nv2 : Nat → px_NV), j + w = n → r_X p n (R + i) gs2 nv2 (x_ld M K R c n0) → (∀ j', j' < j → r_e p gs2 nv2 (12 * (R + i) + j') 0) → w67_L15 (w67_L2 post (u + 1)) post (w + 1) (nI m) (nI c) (nI i) (nI j) iv1 gs2 ge gr gk gq nv2 := by
        intro w
        induction w with
        | zero =>
          intro j gs2 nv2 hj hX2 hE
          have : j = n := by omega
          subst this
          refine ⟨fun _ => ⟨n0 + 1, ?_⟩, fun w => absurd (by rw [v11]; exact nI_le (Nat.le_refl j) (by omega)) w⟩
          exact cells n0 0 gs2 nv2 (by omega) hX2 (fun j' hj' => by rw [if_neg (by omega)]; exact hE j' hj')
        | succ w ihw =>
          intro j gs2 nv2 hj hX2 hE
          refine ⟨fun w => absurd w (by rw [v11]; exact nI_ge (by omega) (by omega)), fun _ => ?_⟩
          rw [i1]
          refine r_put (v := 0) hp v12 hR13 (by omega) (by decide) (by decide) (fun gs3 nv3 k1 k2 k3 k4 z ez => ?_)
          rw [ez, nI_1]
          refine ihw (j + 1) gs3 nv3 (by omega) (r_Xk hR13 hn hX2 (show j < n by omega) k1 k2 k4) (fun j' hj' => ?_)
          by_cases q : j' = j
          · rw [q]
            have e : (if p = 0 then (0 : Int) else 0 % (p : Int)) = 0 := by
              split
              · rfl
              · exact Int.zero_emod _
            rw [e] at k3; exact k3
          · exact r_ek (d' := 0) (hE j' (by omega)) (k1 _ (by omega)) (k2 _ (by omega))
      exact zeros n 0 gs1 nv1 (by omega) hX1 (fun j' q => absurd q (Nat.not_lt_zero j'))
  refine ⟨r0 + 1, main r0 0 iv gs nv (by omega) (by rw [Nat.add_zero]; exact hiv0) (fun _ _ => rfl) ?_⟩
  exact r_Xc (R := R + 0) hX (fun i hi j hj => by unfold x_ld; rw [if_pos (by omega)])
end RLO
