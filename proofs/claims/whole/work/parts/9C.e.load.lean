/-! PURE: over Q, reduce of rows of a space with a tame form: the numbers stay small -/
section RDL
variable {n0 n R r c i0 B : Nat} {F : Nat → Int} {k : Nat → Nat} {M N : Nat → Nat → Int}
theorem x_swe (M : Nat → Nat → Int) (i0 r i : Nat) : x_swr M i0 r i = M (x_pi i0 r i) := by
  unfold x_swr x_pi
  split
  · rfl
  · split <;> rfl
theorem x_pil (hi : i0 < R) (hr : r < R) {i : Nat} (h : i < R) : x_pi i0 r i < R := by
  unfold x_pi
  split
  · exact hr
  · split
    · exact hi
    · exact h
theorem x_pie (i0 r i : Nat) : x_pi i0 r (x_pi i0 r i) = i := by
  unfold x_pi
  by_cases q : i = i0
  · rw [if_pos q]
    by_cases w : r = i0
    · rw [if_pos w]; omega
    · rw [if_neg w, if_pos rfl]; exact q.symm
  · rw [if_neg q]
    by_cases w : i = r
    · rw [if_pos w, if_pos rfl]; exact w.symm
    · rw [if_neg w, if_neg q, if_neg w]
/-- each row has a column of its own in a basis of the form -/
def x_dl (n R : Nat) (F : Nat → Int) (k : Nat → Nat) (M : Nat → Nat → Int) : Prop := ∃ (w : Nat → Nat → Int) (z : Nat → Nat) (Z : Nat), (¬ F Z = 0) ∧ (∀ i, i < R → z i < 12 ∧ Z.testBit (z i) = true) ∧ (∀ e, e < 12 → Z.testBit e = true → ∃ i, i < R ∧ z i = e) ∧ (∀ i, i < R → x_Z F (w i)) ∧ (∀ i, i < R → ¬ w i (z i) = 0) ∧ (∀ i i', i < R → i' < R → i' ≠ i → w i (z i') = 0) ∧ (∀ i, i < R → x_pn n (M i) (fun j => w i (k j)))
theorem x_dlW (hi : i0 < R) (hr : r < R) (h : x_dl n R F k M) : x_dl n R F k (x_swr M i0 r) := by
  obtain ⟨w, z, Z, h1, h2, h3, h4, h5, h6, h7⟩ := h
  refine ⟨fun i => w (x_pi i0 r i), fun i => z (x_pi i0 r i), Z, h1, fun i q => h2 _ (x_pil hi hr q), fun e q1 q2 => ?_, fun i q => h4 _ (x_pil hi hr q), fun i q => h5 _ (x_pil hi hr q), fun i i' q1 q2 q3 => h6 _ _ (x_pil hi hr q1) (x_pil hi hr q2) (fun y => q3 ?_), fun i q => ?_⟩
  · obtain ⟨i, a1, a2⟩ := h3 e q1 q2
    exact ⟨x_pi i0 r i, x_pil hi hr a1, by show z (x_pi i0 r (x_pi i0 r i)) = e; rw [x_pie]; exact a2⟩
  · have := congrArg (x_pi i0 r) y
    rw [x_pie, x_pie] at this; exact this
  · rw [x_swe]; exact h7 _ (x_pil hi hr q)
/-- a shortened row is proportional to the row -/
theorem x_pnh {v : Nat → Int} (hz : x_z0 n v) : x_pn n (x_sho n v) v := by
  obtain ⟨g, g0, hg⟩ := x_shom hz
  exact ⟨g, 1, g0, by decide, fun j _ => by rw [Int.one_mul]; exact (hg j).symm⟩
theorem x_dlE (hr : r < R) (hc : c < n) (hk : k c < 12) (hz : ∀ i, i < R → x_z0 n (N i)) (hne : ¬ N r c = 0) (h : x_dl n R F k N) : x_dl n R F k (x_elk 0 n N r c R) := by
  obtain ⟨w, z, Z, h1, h2, h3, h4, h5, h6, h7⟩ := h
  have hwr : ¬ w r (k c) = 0 := fun q => hne ((x_pnz (h7 r hr) hc).2 q)
  have hzr := h2 r hr
  -- the basis without the old column of row r
  have hT : (x_t Z (z r)).testBit (z r) = false := by rw [x_tbs, hzr.2]; rfl
  have hTz : ∀ g, g < 12 → (x_t Z (z r)).testBit g = true → ∃ i, i < R ∧ i ≠ r ∧ z i = g := fun g q1 q2 => by
    have hg : g ≠ z r := fun y => by rw [y, hT] at q2; exact Bool.noConfusion q2
    rw [x_tbn hg] at q2
    obtain ⟨i, a1, a2⟩ := h3 g q1 q2
    exact ⟨i, a1, fun y => hg (by rw [← a2, y]), a2⟩
  have hT0 : ∀ g, g < 12 → (x_t Z (z r)).testBit g = true → w r g = 0 := fun g q1 q2 => by
    obtain ⟨i, a1, a2, a3⟩ := hTz g q1 q2
    rw [← a3]; exact h6 r i hr a1 a2
  have hTk : (x_t Z (z r)).testBit (k c) = false := Bool.eq_false_iff.2 (fun q => hwr (hT0 _ hk q))
  have hp := x_pnu (h4 r hr) hzr.1 hT (h5 r hr) hT0 (by rw [x_tt]; exact h1)
  have hF : ¬ F (x_t (x_t Z (z r)) (k c)) = 0 := fun q => hwr ((x_pnz hp hk).2 (by
    unfold x_u
    rw [if_neg (by rw [hTk]; exact Bool.noConfusion), q, Int.mul_zero]))
  have hzi : ∀ i, i < R → i ≠ r → z i ≠ z r ∧ z i ≠ k c := fun i q1 q2 => by
    have := h6 r i hr q1 q2
    exact ⟨fun y => h5 r hr (by rw [← y]; exact this), fun y => hwr (by rw [← y]; exact this)⟩
  have sp : ∀ i, i ≠ r → (if i = r then k c else z i) = z i := fun i q => if_neg q
  have sr : (if r = r then k c else z r) = k c := if_pos rfl
  refine ⟨fun i => if i = r then w r else fun e => w r (k c) * w i e + (- w i (k c)) * w r e, fun i => if i = r then k c else z i, x_t (x_t Z (z r)) (k c), hF, fun i hi => ?_, fun e q1 q2 => ?_, fun i hi => ?_, fun i hi => ?_, fun i i' q1 q2 q3 => ?_, fun i hi => ?_⟩
  · show (if i = r then k c else z i) < 12 ∧ (x_t (x_t Z (z r)) (k c)).testBit (if i = r then k c else z i) = true
    by_cases q : i = r
    · rw [if_pos q]
      exact ⟨hk, by rw [x_tbs, hTk]; rfl⟩
    · rw [if_neg q]
      have hq := hzi i hi q
      exact ⟨(h2 i hi).1, by rw [x_tbn hq.2, x_tbn hq.1]; exact (h2 i hi).2⟩
  · by_cases q : e = k c
    · exact ⟨r, hr, by show (if r = r then k c else z r) = e; rw [sr]; exact q.symm⟩
    · rw [x_tbn q] at q2
      obtain ⟨i, a1, a2, a3⟩ := hTz e q1 q2
      exact ⟨i, a1, by show (if i = r then k c else z i) = e; rw [sp i a2]; exact a3⟩
  · show x_Z F (if i = r then w r else fun e => w r (k c) * w i e + (- w i (k c)) * w r e)
    by_cases q : i = r
    · rw [if_pos q]; exact h4 r hr
    · rw [if_neg q]
      exact (x_Zc x_domI F).2.1 _ _ _ _ (h4 i hi) (h4 r hr)
  · show ¬ (if i = r then w r else fun e => w r (k c) * w i e + (- w i (k c)) * w r e) (if i = r then k c else z i) = 0
    by_cases q : i = r
    · rw [if_pos q, if_pos q]; exact hwr
    · rw [if_neg q, if_neg q]
      show ¬ w r (k c) * w i (z i) + (- w i (k c)) * w r (z i) = 0
      rw [h6 r i hr hi q, Int.mul_zero, Int.add_zero]
      intro y
      rcases Int.mul_eq_zero.1 y with y | y
      · exact hwr y
      · exact h5 i hi y
  · show (if i = r then w r else fun e => w r (k c) * w i e + (- w i (k c)) * w r e) (if i' = r then k c else z i') = 0
    by_cases q : i = r
    · rw [if_pos q, if_neg (by omega)]
      exact h6 r i' hr q2 (by omega)
    · rw [if_neg q]
      by_cases q' : i' = r
      · rw [if_pos q']
        show w r (k c) * w i (k c) + (- w i (k c)) * w r (k c) = 0
        grind
      · rw [if_neg q']
        show w r (k c) * w i (z i') + (- w i (k c)) * w r (z i') = 0
        rw [h6 i i' q1 q2 q3, h6 r i' hr q2 q', Int.mul_zero, Int.mul_zero]; rfl
  · show x_pn n (x_elk 0 n N r c R i) (fun j => (if i = r then w r else fun e => w r (k c) * w i e + (- w i (k c)) * w r e) (k j))
    by_cases q : i = r
    · rw [if_pos q, q]
      have : x_elk 0 n N r c R r = N r := by unfold x_elk; rw [if_neg (fun y => y.2.1 rfl)]
      rw [this]; exact h7 r hr
    · rw [if_neg q]
      show x_pn n (x_elk 0 n N r c R i) (fun j => w r (k c) * w i (k j) + (- w i (k c)) * w r (k j))
      by_cases q' : N i c = 0
      · have : x_elk 0 n N r c R i = N i := by unfold x_elk; rw [if_neg (fun y => y.2.2 q')]
        rw [this]
        have e0 : w i (k c) = 0 := (x_pnz (h7 i hi) hc).1 q'
        refine x_pnt (h7 i hi) ⟨w r (k c), 1, hwr, by decide, fun j _ => ?_⟩
        show w r (k c) * w i (k j) = 1 * (w r (k c) * w i (k j) + (- w i (k c)) * w r (k j))
        rw [e0]; grind
      · have : x_elk 0 n N r c R i = x_tk 0 n (N i) (N r) c := by unfold x_elk; rw [if_pos ⟨hi, q, q'⟩]
        rw [this]
        have e : x_tk 0 n (N i) (N r) c = x_sho n (fun j => N i j * N r c - N r j * N i c) := by unfold x_tk; rw [if_pos rfl]
        rw [e]
        refine x_pnt (x_pnh (x_tkz (hz i hi) (hz r hr))) ?_
        obtain ⟨a, b, ha, hb, he⟩ := h7 i hi
        obtain ⟨a', b', ha', hb', he'⟩ := h7 r hr
        refine ⟨a * a', b * b', fun y => ?_, fun y => ?_, fun j hj => ?_⟩
        · rcases Int.mul_eq_zero.1 y with y | y
          · exact ha y
          · exact ha' y
        · rcases Int.mul_eq_zero.1 y with y | y
          · exact hb y
          · exact hb' y
        · have e1 : a * N i j = b * w i (k j) := he j hj
          have e2 : a' * N r j = b' * w r (k j) := he' j hj
          have e3 : a * N i c = b * w i (k c) := he c hc
          have e4 : a' * N r c = b' * w r (k c) := he' c hc
          show a * a' * (N i j * N r c - N r j * N i c) = b * b' * (w r (k c) * w i (k j) + (- w i (k c)) * w r (k j))
          have s1 : a * a' * (N i j * N r c - N r j * N i c) = (a * N i j) * (a' * N r c) - (a' * N r j) * (a * N i c) := by grind
          rw [s1, e1, e2, e3, e4]; grind
theorem x_dlB (hn0 : n0 ≤ 12) (ht : x_ta B n0 F) (hk : ∀ j, j < n → k j < n0) (h : x_dl n R F k M) {i : Nat} (hi : i < R) (hg : x_gc (M i) n = 1 ∨ ∀ j, j < n → M i j = 0) : ∀ j, j < n → (M i j).natAbs ≤ B := by
  obtain ⟨w, z, Z, h1, h2, h3, h4, h5, h6, h7⟩ := h
  have hT : (x_t Z (z i)).testBit (z i) = false := by rw [x_tbs, (h2 i hi).2]; rfl
  refine x_tab (T := x_t Z (z i)) (v := w i) hn0 ht hk (x_pnu (h4 i hi) (h2 i hi).1 hT (h5 i hi) (fun g q1 q2 => ?_) (by rw [x_tt]; exact h1)) (h7 i hi) hg
  have hg : g ≠ z i := fun y => by rw [y, hT] at q2; exact Bool.noConfusion q2
  rw [x_tbn hg] at q2
  obtain ⟨i', a1, a2⟩ := h3 g q1 q2
  rw [← a2]
  exact h6 i i' hi a1 (fun y => hg (by rw [← a2, y]))
/-- the rows after a step: as small as before -/
theorem x_elb (hz : ∀ i, i < R → x_z0 n (N i)) (hb : ∀ i, i < R → ∀ j, j < n → (N i j).natAbs ≤ B) (h : ∀ i, i < R → (x_gc (x_elk 0 n N r c R i) n = 1 ∨ ∀ j, j < n → x_elk 0 n N r c R i j = 0) → ∀ j, j < n → (x_elk 0 n N r c R i j).natAbs ≤ B) : ∀ i, i < R → ∀ j, j < n → (x_elk 0 n N r c R i j).natAbs ≤ B := fun i hi => by
  by_cases q : i < R ∧ i ≠ r ∧ N i c ≠ 0
  · refine h i hi ?_
    have : x_elk 0 n N r c R i = x_tk 0 n (N i) (N r) c := by unfold x_elk; rw [if_pos q]
    rw [this]
    have e : x_tk 0 n (N i) (N r) c = x_sho n (fun j => N i j * N r c - N r j * N i c) := by unfold x_tk; rw [if_pos rfl]
    rw [e]
    exact x_shog
  · have : x_elk 0 n N r c R i = N i := by unfold x_elk; rw [if_neg q]
    rw [this]; exact hb i hi
end RDL
