/-! PURE: over Q, settled rows -/
section RSTL
variable {P : (Nat → Int) → Prop} {n c : Nat} {a : Nat → Int}
theorem x_sho0 (hz : x_z0 n a) {j : Nat} : x_sho n a j = 0 ↔ a j = 0 := by
  obtain ⟨g, g0, hg⟩ := x_shom hz
  have hj := hg j
  constructor
  · intro h; rw [hj, h, Int.mul_zero]
  · intro h
    rw [h] at hj
    exact (Int.mul_eq_zero.1 hj.symm).resolve_left g0
theorem x_stlm (hz : x_z0 n a) : ∃ s : Int, (s = 1 ∨ s = -1) ∧ ∀ j, x_stl2 0 n a c j = s * x_sho n a j := by
  by_cases q : x_sho n a c < 0
  · refine ⟨-1, Or.inr rfl, fun j => ?_⟩
    unfold x_stl2
    rw [if_pos rfl]
    show (if x_sho n a c < 0 then - x_sho n a j else x_sho n a j) = _
    rw [if_pos q]; grind
  · refine ⟨1, Or.inl rfl, fun j => ?_⟩
    unfold x_stl2
    rw [if_pos rfl]
    show (if x_sho n a c < 0 then - x_sho n a j else x_sho n a j) = _
    rw [if_neg q]; grind
theorem x_stl0 (hz : x_z0 n a) {j : Nat} : x_stl2 0 n a c j = 0 ↔ a j = 0 := by
  obtain ⟨s, hs, he⟩ := x_stlm (c := c) hz
  rw [he, ← x_sho0 hz]
  rcases hs with q | q <;> rw [q] <;> omega
theorem x_stlp (hz : x_z0 n a) (h : ¬ a c = 0) : 0 < x_stl2 0 n a c c := by
  have h1 : ¬ x_sho n a c = 0 := fun q => h ((x_sho0 hz).1 q)
  unfold x_stl2
  rw [if_pos rfl]
  show 0 < (if x_sho n a c < 0 then - x_sho n a c else x_sho n a c)
  split <;> omega
theorem x_stlP (hP : x_cl P) (hz : x_z0 n a) : P (x_stl2 0 n a c) ↔ P a := by
  obtain ⟨s, hs, he⟩ := x_stlm (c := c) hz
  rw [← x_shoP hP hz]
  constructor
  · intro h
    refine hP.2.2.1 _ _ (fun e _ => ?_) (x_clm hP s h)
    rw [he]
    rcases hs with q | q <;> rw [q] <;> grind
  · intro h
    exact hP.2.2.1 _ _ (fun e _ => (he e).symm) (x_clm hP s h)
theorem x_shob (n : Nat) (a : Nat → Int) (j : Nat) : (x_sho n a j).natAbs ≤ (a j).natAbs := by
  unfold x_sho
  split
  · exact Nat.le_refl _
  · rw [Int.natAbs_tdiv]; exact Nat.div_le_self _ _
theorem x_stlb (hz : x_z0 n a) (j : Nat) : (x_stl2 0 n a c j).natAbs ≤ (a j).natAbs := by
  obtain ⟨s, hs, he⟩ := x_stlm (c := c) hz
  rw [he]
  have := x_shob n a j
  rcases hs with q | q
  · rw [q, Int.one_mul]; exact this
  · rw [q, Int.natAbs_mul, show (-1 : Int).natAbs = 1 from rfl, Nat.one_mul]; exact this
/-- the whole matrix settled: space, pivots, signs -/
theorem x_allP {R r : Nat} {piv : Nat → Nat} {M : Nat → Nat → Int} (hP : x_cl P) (h : x_pv n R r n piv M) : (∀ i, i < r → P (x_all2 0 n r piv M i)) ↔ (∀ i, i < R → P (M i)) := by
  obtain ⟨h1, h2, h3, h4, h5, h6, h7⟩ := h
  constructor
  · intro w i hi
    by_cases q : i < r
    · have := w i q
      unfold x_all2 at this
      rw [if_pos q] at this
      exact (x_stlP hP (h4 i hi)).1 this
    · refine hP.2.2.1 _ _ (fun e _ => ?_) hP.1
      show 0 = M i e
      by_cases z : e < n
      · exact (h7 i (by omega) hi e z).symm
      · exact (h4 i hi e (by omega)).symm
  · intro w i hi
    unfold x_all2
    rw [if_pos hi]
    exact (x_stlP hP (h4 i (by omega))).2 (w i (by omega))
theorem x_allV {R r : Nat} {piv : Nat → Nat} {M : Nat → Nat → Int} (h : x_pv n R r n piv M) : (∀ i, i < r → piv i < n ∧ 0 < x_all2 0 n r piv M i (piv i)) ∧ (∀ i i', i < r → i' < r → i' ≠ i → x_all2 0 n r piv M i' (piv i) = 0) ∧ (∀ i i', i < r → i' < r → piv i = piv i' → i = i') ∧ ∀ i, i < r → x_z0 n (x_all2 0 n r piv M i) := by
  obtain ⟨h1, h2, h3, h4, h5, h6, h7⟩ := h
  have e : ∀ i, i < r → x_all2 0 n r piv M i = x_stl2 0 n (M i) (piv i) := fun i hi => by unfold x_all2; rw [if_pos hi]
  refine ⟨fun i hi => ⟨(h5 i hi).1, ?_⟩, fun i i' q1 q2 q3 => ?_, fun i i' q1 q2 q3 => ?_, fun i hi j hj => ?_⟩
  · rw [e i hi]; exact x_stlp (h4 i (by omega)) (h5 i hi).2.1
  · rw [e i' q2, x_stl0 (h4 i' (by omega))]; exact (h5 i q1).2.2 i' (by omega) q3
  · rcases Nat.lt_trichotomy i i' with w | w | w
    · have := h6 i i' w q2; omega
    · exact w
    · have := h6 i' i w q1; omega
  · rw [e i hi, x_stl0 (h4 i (by omega))]; exact h4 i (by omega) j hj
end RSTL
