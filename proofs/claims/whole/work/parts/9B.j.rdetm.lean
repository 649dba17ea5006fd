/-! PURE, the reference: determinant -/
section RDM
variable {nv nv0 : Nat → px_NV} {iv fr fc : Nat → Int32} {n c k j : Nat} {A B : Nat → Nat → Int}
/-- the table while step c is done: rows below k, and of row k the places below j -/
def r_Et (n c k j : Nat) (B : Nat → Nat → Int) (nv0 nv : Nat → px_NV) : Prop := (∀ d, d < 156 → nv d = nv0 d) ∧ (0 < c → pn_N (nv (156 + (6 * (c - 1) + (c - 1)))) (x_d B c)) ∧ (∀ k' j', k' < n → j' < n → ∃ z, pn_N (nv (156 + (6 * k' + j'))) z) ∧ (∀ k' j', c ≤ k' → k' < n → c ≤ j' → j' < n → pn_N (nv (156 + (6 * k' + j'))) (if c < k' ∧ c < j' ∧ (k' < k ∨ (k' = k ∧ j' < j)) then x_mu B (c + 1) k' j' else x_mu B c k' j'))
theorem r_EtU {nv' : Nat → px_NV} (hn : n ≤ 6) (hk : k < n) (hck : c < k) (hj : j < n) (hcj : c < j) (h : r_Et n c k j B nv0 nv) (h1 : ∀ d, d < 192 → d ≠ 156 + (6 * k + j) → nv' d = nv d) (h2 : pn_N (nv' (156 + (6 * k + j))) (x_mu B (c + 1) k j)) : r_Et n c k (j + 1) B nv0 nv' := by
  obtain ⟨a1, a2, a3, a4⟩ := h
  refine ⟨fun d hd => ?_, fun hc => ?_, fun k' j' hk' hj' => ?_, fun k' j' q1 q2 q3 q4 => ?_⟩
  · rw [h1 d (by omega) (by omega)]; exact a1 d hd
  · rw [h1 _ (by omega) (by omega)]; exact a2 hc
  · by_cases w : k' = k ∧ j' = j
    · rw [w.1, w.2]; exact ⟨_, h2⟩
    · rw [h1 _ (by omega) (by omega)]; exact a3 k' j' hk' hj'
  · by_cases w : k' = k ∧ j' = j
    · rw [w.1, w.2, if_pos (by omega)]; exact h2
    · rw [h1 _ (by omega) (by omega)]
      have := a4 k' j' q1 q2 q3 q4
      have e : (c < k' ∧ c < j' ∧ (k' < k ∨ (k' = k ∧ j' < j + 1))) ↔ (c < k' ∧ c < j' ∧ (k' < k ∨ (k' = k ∧ j' < j))) := by omega
      simp only [e]
      exact this
theorem r_EtR (h : r_Et n c k n B nv0 nv) : r_Et n c (k + 1) (c + 1) B nv0 nv := by
  obtain ⟨a1, a2, a3, a4⟩ := h
  refine ⟨a1, a2, a3, fun k' j' q1 q2 q3 q4 => ?_⟩
  have := a4 k' j' q1 q2 q3 q4
  have e : (c < k' ∧ c < j' ∧ (k' < k + 1 ∨ (k' = k + 1 ∧ j' < c + 1))) ↔ (c < k' ∧ c < j' ∧ (k' < k ∨ (k' = k ∧ j' < n))) := by omega
  simp only [e]
  exact this
theorem r_dE {K60 : Int32 → Int32 → Int32 → (Nat → Int32) → (Nat → Int32) → (Nat → Int32) → (Nat → px_NV) → Prop} {K212 : Int32 → Int32 → Int32 → Int32 → Int32 → (Nat → Int32) → (Nat → Int32) → (Nat → Int32) → (Nat → px_NV) → Prop} {post : Int32 → (Nat → Int32) → (Nat → Int32) → (Nat → Int32) → (Nat → px_NV) → Prop} {s x4 : Int32} (hn : n ≤ 6) (hk : k < n) (hck : c < k) (hB : ∀ i, i < n → ∀ e, e < 12 → (B i e).natAbs < 65536 ^ 9) (hd : ¬ x_d B c = 0) (hd1 : ¬ x_d B (c + 1) = 0)
    (hK : ∀ nv2, r_Et n c (k + 1) (c + 1) B nv0 nv2 → K212 (nI n) s (nI c) x4 (nI (k + 1)) iv fr fc nv2) : ∀ (u j : Nat) (nv1 : Nat → px_NV), j + u = n → c < j → r_Et n c k j B nv0 nv1 → w61_L223 K60 K212 post (u + 1) (nI n) s (nI c) x4 (nI k) (nI j) iv fr fc nv1 := by
  intro u
  induction u with
  | zero =>
    intro j nv1 hj hcj hE
    have : j = n := by omega
    subst this
    refine ⟨fun _ z ez => ?_, fun w => absurd (nI_le (Nat.le_refl j) (by omega)) w⟩
    rw [ez, nI_1]
    exact hK nv1 (r_EtR hE)
  | succ u ih =>
    intro j nv1 hj hcj hE
    have a4 := hE.2.2.2
    have tkj := a4 k j (by omega) hk (by omega) (by omega)
    have tcc := a4 c c (by omega) (by omega) (by omega) (by omega)
    have tkc := a4 k c (by omega) hk (by omega) (by omega)
    have tcj := a4 c j (by omega) (by omega) (by omega) (by omega)
    rw [if_neg (by omega)] at tkj tcc tkc tcj
    have bkj := x_mub6 (p := B) (c := c) (k := k) (j := j) hn (by omega) hk hB
    have bcc := x_mub6 (p := B) (c := c) (k := c) (j := c) hn (by omega) (by omega) hB
    have bkc := x_mub6 (p := B) (c := c) (k := k) (j := c) hn (by omega) hk hB
    have bcj := x_mub6 (p := B) (c := c) (k := c) (j := j) hn (by omega) (by omega) hB
    have bmul : ∀ x y : Int, x.natAbs < 65536 ^ 60 → y.natAbs < 65536 ^ 60 → (x * y).natAbs < 65536 ^ 159 := by
      intro x y hx hy
      rw [Int.natAbs_mul]
      have h1 : x.natAbs * y.natAbs < 65536 ^ 60 * 65536 ^ 60 := Nat.mul_lt_mul_of_lt_of_lt hx hy
      have h2 : (65536 : Nat) ^ 60 * 65536 ^ 60 ≤ 65536 ^ 159 := by rw [← Nat.pow_add]; exact Nat.pow_le_pow_right (by decide) (by decide)
      exact Nat.lt_of_lt_of_le h1 h2
    have hbare := x_bare x_domI B c k (by omega) hd1 j (by omega)
    rw [← x_mud] at hbare
    unfold w61_L223 w61_L383
    rw [b_ix6 (i := k) (j := j), b_ix6 (i := c) (j := c), b_ix6 (i := k) (j := c), b_ix6 (i := c) (j := j), nI_clamp (show 6 * k + j < 2 ^ 31 by omega), nI_clamp (show 6 * c + c < 2 ^ 31 by omega), nI_clamp (show 6 * k + c < 2 ^ 31 by omega), nI_clamp (show 6 * c + j < 2 ^ 31 by omega)]
    refine ⟨fun w => absurd w (nI_ge (by omega) (by omega)), fun _ => ⟨b_in (by omega) (by omega), b_in (by omega) (by omega), ?_⟩⟩
    refine pn_prP (c := 60) (d := 60) (by decide) (by omega) (by omega) (by omega) (by omega) (by omega) tkj tcc bkj bcc (by decide) (fun nv2 k2 r2 => ⟨b_in (by omega) (by omega), b_in (by omega) (by omega), ?_⟩)
    refine pn_prP (c := 60) (d := 60) (by decide) (by omega) (by omega) (by omega) (by omega) (by omega) (by rw [k2 _ (by omega)]; exact tkc) (by rw [k2 _ (by omega)]; exact tcj) bkc bcj (by decide) (fun nv3 k3 r3 => ?_)
    refine pn_less (x := x_mu B c k j * x_mu B c c c) (y := x_mu B c k c * x_mu B c c j) (by decide) (by decide) (by decide) (by decide) (by decide) (by decide) (by rw [k3 192 (by decide)]; exact r2) r3 (bmul _ _ bkj bcc) (bmul _ _ bkc bcj) (fun nv4 k4 r4 => ?_)
    have ev : x_mu B c k j * x_mu B c c c - x_mu B c k c * x_mu B c c j = x_d B c * x_mu B (c + 1) k j := by
      rw [hbare, Int.mul_comm (x_mu B c k j)]
    rw [ev] at r4
    have k40 : ∀ d, d < 192 → nv4 d = nv1 d := fun d hd => by rw [k4 d (by omega), k3 d (by omega), k2 d (by omega)]
    refine ⟨fun w => ?_, fun w => ?_⟩
    · have hc0 : c = 0 := Classical.byContradiction (fun q => nI_nle (by omega) (by omega) w)
      have e1 : x_d B c * x_mu B (c + 1) k j = x_mu B (c + 1) k j := by rw [hc0, x_d0, Int.one_mul]
      rw [e1] at r4
      refine ⟨b_in (by omega) (by omega), pn_cpP (by omega) (by decide) (by omega) r4 (fun nv5 k5 r5 z ez => ?_)⟩
      rw [ez, nI_1]
      exact ih (j + 1) nv5 (by omega) (by omega) (r_EtU hn hk hck (by omega) hcj hE (fun d d1 d2 => by rw [k5 d d2]; exact k40 d d1) r5)
    · have hc0 : 0 < c := Classical.byContradiction (fun q => w (by rw [show c = 0 by omega]; exact Int32.le_refl 0))
      have e1 : (x_d B c * x_mu B (c + 1) k j).tdiv (x_d B c) = x_mu B (c + 1) k j := Int.mul_tdiv_cancel_left _ hd
      have bd := x_db6 (p := B) (c := c) hn (by omega) hB
      have h60 : (65536 : Nat) ^ 60 ≤ 65536 ^ 159 := Nat.pow_le_pow_right (by decide) (by decide)
      rw [b_ix6d hc0, nI_clamp (show 6 * (c - 1) + (c - 1) < 2 ^ 31 by omega)]
      refine ⟨b_in (by omega) (by omega), ?_⟩
      refine pn_quP (y := x_d B c) (by decide) (by decide) (by omega) (by decide) (by decide) (by omega) (by decide) (by omega) (by decide) (by omega) r4 (by rw [k40 _ (by omega)]; exact hE.2.1 hc0) (Nat.lt_of_lt_of_le bd h60) hd (fun nv5 k5 r5 _ => ⟨b_in (by omega) (by omega), ?_⟩)
      rw [e1] at r5
      refine pn_cpP (by omega) (by decide) (by omega) r5 (fun nv6 k6 r6 z ez => ?_)
      rw [ez, nI_1]
      exact ih (j + 1) nv6 (by omega) (by omega) (r_EtU hn hk hck (by omega) hcj hE (fun d d1 d2 => by rw [k6 d d2, k5 d (by omega) (by omega)]; exact k40 d d1) r6)
theorem r_dR {K60 : Int32 → Int32 → Int32 → (Nat → Int32) → (Nat → Int32) → (Nat → Int32) → (Nat → px_NV) → Prop} {post : Int32 → (Nat → Int32) → (Nat → Int32) → (Nat → Int32) → (Nat → px_NV) → Prop} {s x4 : Int32} (hn : n ≤ 6) (hB : ∀ i, i < n → ∀ e, e < 12 → (B i e).natAbs < 65536 ^ 9) (hd : ¬ x_d B c = 0) (hd1 : ¬ x_d B (c + 1) = 0)
    (hK : ∀ nv2, r_Et n c n (c + 1) B nv0 nv2 → K60 (nI n) s (nI (c + 1)) iv fr fc nv2) : ∀ (u k : Nat) (nv1 : Nat → px_NV), k + u = n → c < k → r_Et n c k (c + 1) B nv0 nv1 → w61_L212 K60 post (u + 1) (nI n) s (nI c) x4 (nI k) iv fr fc nv1 := by
  intro u
  induction u with
  | zero =>
    intro k nv1 hk hck hE
    have : k = n := by omega
    subst this
    refine ⟨fun _ z ez => ?_, fun w => absurd (nI_le (Nat.le_refl k) (by omega)) w⟩
    rw [ez, nI_1]
    exact hK nv1 hE
  | succ u ih =>
    intro k nv1 hk hck hE
    refine ⟨fun w => absurd w (nI_ge (by omega) (by omega)), fun _ z ez => ⟨n - (c + 1) + 1, ?_⟩⟩
    rw [ez, nI_1]
    exact r_dE hn (by omega) hck hB hd hd1 (fun nv2 hE2 => ih (k + 1) nv2 (by omega) (by omega) hE2) (n - (c + 1)) (c + 1) nv1 (by omega) (by omega) hE
end RDM
