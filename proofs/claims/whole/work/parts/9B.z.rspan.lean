/-! PURE: over Q, the reference's steps keep the space of the rows -/
section RSN
variable {P : (Nat → Int) → Prop} {n : Nat} {v a b : Nat → Int} {c : Nat}
/-- a row that is 0 from column n on -/
def x_z0 (n : Nat) (v : Nat → Int) : Prop := ∀ j, n ≤ j → v j = 0
theorem x_gc0 {v : Nat → Int} : ∀ n, x_gc v n = 0 → ∀ j, j < n → v j = 0
  | 0, _, j, hj => absurd hj (Nat.not_lt_zero j)
  | n + 1, h, j, hj => by
    have h : Nat.gcd (x_gc v n) (v n).natAbs = 0 := h
    have h1 := Nat.gcd_eq_zero_iff.1 h
    by_cases q : j = n
    · rw [q]; omega
    · exact x_gc0 n h1.1 j (by omega)
theorem x_shoz (hz : x_z0 n v) : x_z0 n (x_sho n v) := fun j hj => by
  unfold x_sho
  rw [hz j hj]
  split
  · rfl
  · exact Int.zero_tdiv _
/-- the row is its shortened row, times what it was divided by -/
theorem x_shom (hz : x_z0 n v) : ∃ g : Int, (¬ g = 0) ∧ ∀ j, v j = g * x_sho n v j := by
  by_cases q : x_gc v n = 0
  · refine ⟨1, by decide, fun j => ?_⟩
    unfold x_sho
    rw [if_pos q, Int.one_mul]
  · refine ⟨(x_gc v n : Int), by omega, fun j => ?_⟩
    unfold x_sho
    rw [if_neg q]
    by_cases w : j < n
    · exact (Int.mul_tdiv_cancel' (x_gcd n j w)).symm
    · rw [hz j (by omega), Int.zero_tdiv, Int.mul_zero]
theorem x_shoP (hP : x_cl P) (hz : x_z0 n v) : P (x_sho n v) ↔ P v := by
  obtain ⟨g, g0, hg⟩ := x_shom hz
  constructor
  · intro h
    exact hP.2.2.1 _ _ (fun e _ => (hg e).symm) (x_clm hP g h)
  · intro h
    exact hP.2.2.2 g _ g0 (hP.2.2.1 _ _ (fun e _ => hg e) h)
theorem x_tkz (ha : x_z0 n a) (hb : x_z0 n b) : x_z0 n (fun j => a j * b c - b j * a c) := fun j hj => by
  show a j * b c - b j * a c = 0
  rw [ha j hj, hb j hj]; grind
theorem x_tkP (hP : x_cl P) (ha : x_z0 n a) (hb : x_z0 n b) (hbP : P b) (hc : ¬ b c = 0) : P (x_tk 0 n a b c) ↔ P a := by
  have e : x_tk 0 n a b c = x_sho n (fun j => a j * b c - b j * a c) := by unfold x_tk; rw [if_pos rfl]
  rw [e, x_shoP hP (x_tkz ha hb)]
  constructor
  · intro h
    refine hP.2.2.2 (b c) _ hc (hP.2.2.1 _ _ (fun e _ => ?_) (hP.2.1 1 (a c) _ _ h hbP))
    show 1 * (a e * b c - b e * a c) + a c * b e = b c * a e
    grind
  · intro h
    refine hP.2.2.1 _ _ (fun e _ => ?_) (hP.2.1 (b c) (- a c) _ _ h hbP)
    show b c * a e + - a c * b e = a e * b c - b e * a c
    grind
theorem x_tkz0 (ha : x_z0 n a) (hb : x_z0 n b) : x_z0 n (x_tk 0 n a b c) := by
  have e : x_tk 0 n a b c = x_sho n (fun j => a j * b c - b j * a c) := by unfold x_tk; rw [if_pos rfl]
  rw [e]; exact x_shoz (x_tkz ha hb)
/-- elimination keeps the space -/
theorem x_elkP {M : Nat → Nat → Int} {R r : Nat} (hP : x_cl P) (hr : r < R) (hz : ∀ i, i < R → x_z0 n (M i)) (hc : ¬ M r c = 0) : (∀ i, i < R → P (x_elk 0 n M r c R i)) ↔ (∀ i, i < R → P (M i)) := by
  have er : x_elk 0 n M r c R r = M r := by unfold x_elk; rw [if_neg (fun z => z.2.1 rfl)]
  constructor
  · intro h i hi
    have hrP : P (M r) := by have := h r hr; rw [er] at this; exact this
    have := h i hi
    unfold x_elk at this
    by_cases q : i < R ∧ i ≠ r ∧ M i c ≠ 0
    · rw [if_pos q] at this
      exact (x_tkP hP (hz i hi) (hz r hr) hrP hc).1 this
    · rw [if_neg q] at this; exact this
  · intro h i hi
    unfold x_elk
    by_cases q : i < R ∧ i ≠ r ∧ M i c ≠ 0
    · rw [if_pos q]
      exact (x_tkP hP (hz i hi) (hz r hr) (h r hr) hc).2 (h i hi)
    · rw [if_neg q]; exact h i hi
theorem x_swrP {M : Nat → Nat → Int} {R i0 r : Nat} (hi : i0 < R) (hr : r < R) : (∀ i, i < R → P (x_swr M i0 r i)) ↔ (∀ i, i < R → P (M i)) := by
  have e : ∀ i, x_swr M i0 r i = M (x_pi i0 r i) := fun i => by
    unfold x_swr x_pi
    split
    · rfl
    · split <;> rfl
  have hl : ∀ i, i < R → x_pi i0 r i < R := fun i q => by
    unfold x_pi
    split
    · exact hr
    · split
      · exact hi
      · exact q
  have inv : ∀ i, x_pi i0 r (x_pi i0 r i) = i := fun i => by
    unfold x_pi
    by_cases q : i = i0
    · rw [if_pos q]
      by_cases w : r = i0
      · rw [if_pos w]; omega
      · rw [if_neg w, if_pos rfl]; exact q.symm
    · rw [if_neg q]
      by_cases w : i = r
      · rw [if_pos w, if_pos rfl]; exact w.symm
      · rw [if_neg w, if_neg q, if_neg w]
  constructor
  · intro h i q
    have := h (x_pi i0 r i) (hl i q)
    rw [e, inv] at this; exact this
  · intro h i q
    rw [e]; exact h _ (hl i q)
end RSN
