/-! PURE: over Q, the pivots that reduce makes -/
section RPV
variable {n R r c : Nat} {piv : Nat → Nat} {M : Nat → Nat → Int} {a b : Nat → Int}
theorem x_tk0 {c j : Nat} (ha : x_z0 n a) (hb : x_z0 n b) : x_tk 0 n a b c j = 0 ↔ a j * b c - b j * a c = 0 := by
  have e : x_tk 0 n a b c = x_sho n (fun j => a j * b c - b j * a c) := by unfold x_tk; rw [if_pos rfl]
  obtain ⟨g, g0, hg⟩ := x_shom (x_tkz (c := c) ha hb)
  have hj := hg j
  rw [e]
  constructor
  · intro h
    rw [h, Int.mul_zero] at hj
    exact hj
  · intro h
    have h1 : g * x_sho n (fun j => a j * b c - b j * a c) j = 0 := by rw [← hj]; exact h
    exact (Int.mul_eq_zero.1 h1).resolve_left g0
/-- r pivots among the columns below c; the rows from r on are 0 there -/
def x_pv (n R r c : Nat) (piv : Nat → Nat) (M : Nat → Nat → Int) : Prop := r ≤ R ∧ r ≤ c ∧ c ≤ n ∧ (∀ i, i < R → x_z0 n (M i)) ∧ (∀ i, i < r → piv i < c ∧ (¬ M i (piv i) = 0) ∧ ∀ i', i' < R → i' ≠ i → M i' (piv i) = 0) ∧ (∀ i i', i < i' → i' < r → piv i < piv i') ∧ (∀ i, r ≤ i → i < R → ∀ j, j < c → M i j = 0)
theorem x_pvS (h : x_pv n R r c piv M) (hc : c < n) (hz : ∀ i, r ≤ i → i < R → M i c = 0) : x_pv n R r (c + 1) piv M := by
  obtain ⟨h1, h2, h3, h4, h5, h6, h7⟩ := h
  refine ⟨h1, by omega, by omega, h4, fun i hi => ⟨by have := (h5 i hi).1; omega, (h5 i hi).2⟩, h6, fun i q1 q2 j hj => ?_⟩
  by_cases q : j = c
  · rw [q]; exact hz i q1 q2
  · exact h7 i q1 q2 j (by omega)
theorem x_pvP {i0 : Nat} (h : x_pv n R r c piv M) (hc : c < n) (hi1 : r ≤ i0) (hi2 : i0 < R) (hne : ¬ M i0 c = 0) : x_pv n R (r + 1) (c + 1) (fun x => if x = r then c else piv x) (x_elk 0 n (x_swr M i0 r) r c R) := by
  obtain ⟨h1, h2, h3, h4, h5, h6, h7⟩ := h
  -- the rows changed for one another
  have e1 : ∀ i, i < r → x_swr M i0 r i = M i := fun i hi => by
    unfold x_swr; rw [if_neg (by omega), if_neg (by omega)]
  have er : x_swr M i0 r r = M i0 := by
    unfold x_swr
    by_cases q : r = i0
    · rw [if_pos q]; rw [q]
    · rw [if_neg q, if_pos rfl]
  have ex : ∀ i, i < R → r ≤ i → ∃ i', r ≤ i' ∧ i' < R ∧ x_swr M i0 r i = M i' := fun i q1 q2 => by
    unfold x_swr
    by_cases q : i = i0
    · exact ⟨r, Nat.le_refl r, by omega, by rw [if_pos q]⟩
    · rw [if_neg q]
      by_cases q' : i = r
      · exact ⟨i0, hi1, hi2, by rw [if_pos q']⟩
      · exact ⟨i, q2, q1, by rw [if_neg q']⟩
  generalize hN : x_swr M i0 r = N at *
  have z4 : ∀ i, i < R → x_z0 n (N i) := fun i hi => by
    by_cases q : i < r
    · rw [e1 i q]; exact h4 i hi
    · obtain ⟨i', _, q2, q3⟩ := ex i hi (by omega)
      rw [q3]; exact h4 i' q2
  have z5 : ∀ i, i < r → (¬ N i (piv i) = 0) ∧ ∀ i', i' < R → i' ≠ i → N i' (piv i) = 0 := fun i hi => by
    refine ⟨by rw [e1 i hi]; exact (h5 i hi).2.1, fun i' q1 q2 => ?_⟩
    by_cases q : i' < r
    · rw [e1 i' q]; exact (h5 i hi).2.2 i' q1 q2
    · obtain ⟨k, w1, w2, w3⟩ := ex i' q1 (by omega)
      rw [w3]; exact (h5 i hi).2.2 k w2 (by omega)
  have z7 : ∀ i, r ≤ i → i < R → ∀ j, j < c → N i j = 0 := fun i q1 q2 j hj => by
    obtain ⟨k, w1, w2, w3⟩ := ex i q2 q1
    rw [w3]; exact h7 k w1 w2 j hj
  have hrc : ¬ N r c = 0 := by rw [er]; exact hne
  have hr : r < R := by omega
  -- a cleared row
  have err : x_elk 0 n N r c R r = N r := by unfold x_elk; rw [if_neg (fun z => z.2.1 rfl)]
  have ek : ∀ k, k < R → k ≠ r → ∀ j, x_elk 0 n N r c R k j = 0 ↔ N k j * N r c - N r j * N k c = 0 := fun k q1 q2 j => by
    unfold x_elk
    by_cases q : N k c = 0
    · rw [if_neg (fun z => z.2.2 q), q]
      constructor
      · intro w; rw [w]; grind
      · intro w
        have : N k j * N r c = 0 := by
          have e : N r j * 0 = (0 : Int) := Int.mul_zero _
          omega
        exact (Int.mul_eq_zero.1 this).resolve_right hrc
    · rw [if_pos ⟨q1, q2, q⟩]
      exact x_tk0 (z4 k q1) (z4 r hr)
  refine ⟨by omega, by omega, by omega, fun i hi => ?_, fun i hi => ?_, fun i i' q1 q2 => ?_, fun i q1 q2 j hj => ?_⟩
  · unfold x_elk
    split
    · exact x_tkz0 (z4 i hi) (z4 r hr)
    · exact z4 i hi
  · by_cases q : i = r
    · subst q
      have ep : (fun x => if x = i then c else piv x) i = c := if_pos rfl
      rw [ep]
      refine ⟨by omega, by rw [err]; exact hrc, fun i' w1 w2 => (ek i' w1 w2 c).2 ?_⟩
      grind
    · have hir : i < r := by omega
      have ep : (fun x => if x = r then c else piv x) i = piv i := if_neg q
      rw [ep]
      have hr0 : N r (piv i) = 0 := (z5 i hir).2 r hr (by omega)
      refine ⟨by have := (h5 i hir).1; omega, fun w => ?_, fun i' w1 w2 => ?_⟩
      · have := (ek i (by omega) q (piv i)).1 w
        rw [hr0] at this
        have e : (0 : Int) * N i c = 0 := Int.zero_mul _
        have : N i (piv i) * N r c = 0 := by omega
        rcases Int.mul_eq_zero.1 this with y | y
        · exact (z5 i hir).1 y
        · exact hrc y
      · by_cases w : i' = r
        · rw [w, err]; exact hr0
        · refine (ek i' w1 w (piv i)).2 ?_
          rw [hr0, (z5 i hir).2 i' w1 w2]; grind
  · show (if i = r then c else piv i) < (if i' = r then c else piv i')
    rw [if_neg (show ¬ i = r by omega)]
    by_cases q : i' = r
    · rw [if_pos q]; exact (h5 i (by omega)).1
    · rw [if_neg q]; exact h6 i i' q1 (by omega)
  · refine (ek i q2 (by omega) j).2 ?_
    by_cases q : j = c
    · rw [q]; grind
    · rw [z7 i (by omega) q2 j (by omega), z7 r (Nat.le_refl r) hr j (by omega)]; grind
end RPV
