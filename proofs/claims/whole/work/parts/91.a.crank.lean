/-! PURE, the class: a matroid's ranks -/
theorem b_in {n N : Nat} (h : n < N) (hn : n < 2 ^ 31) : vp_in (nI n) N := by
  rintro (h1 | h1)
  · exact nI_pos hn h1
  · rw [nI_clamp hn] at h1; omega
theorem b_upup {α : Type} (f : Nat → α) (k : Nat) (x y : α) : va_up (va_up f k x) k y = va_up f k y := by
  funext j
  unfold va_up
  by_cases h : j = k
  · rw [if_pos h, if_pos h]
  · rw [if_neg h, if_neg h, if_neg h]
theorem b_p12 {n : Nat} (hn : n ≤ 12) : 2 ^ n ≤ 4096 := Nat.pow_le_pow_right (by decide) hn
theorem b_byte : ∀ k, k < 128 → vp_nar .byte (nI k).toInt8.toInt32 = nI k := by decide +kernel
/-- a matroid with another array -/
def c_set (M : px_MR) (k : Nat) (f : Nat → Int32) : px_MR := (M.1, M.2.1, M.2.2.1, va_up M.2.2.2.1 k f, M.2.2.2.2)
theorem c_ss (M : px_MR) (k : Nat) (f g : Nat → Int32) : c_set (c_set M k f) k g = c_set M k g := by
  unfold c_set
  simp only [b_upup]
theorem c_sg (M : px_MR) (k : Nat) (f : Nat → Int32) : (c_set M k f).2.2.2.1 k = f := va_up_self _ _ _
theorem c_sgn (M : px_MR) {k j : Nat} (f : Nat → Int32) (h : j ≠ k) : (c_set M k f).2.2.2.1 j = M.2.2.2.1 j := va_up_ne _ _ h
theorem c_self (M : px_MR) (k : Nat) : c_set M k (M.2.2.2.1 k) = M := by
  unfold c_set
  have : va_up M.2.2.2.1 k (M.2.2.2.1 k) = M.2.2.2.1 := by
    funext j
    unfold va_up
    by_cases h : j = k
    · rw [if_pos h, h]
    · rw [if_neg h]
  rw [this]
theorem b_upself {α : Type} (f : Nat → α) (k : Nat) : va_up f k (f k) = f := by
  funext j
  unfold va_up
  by_cases h : j = k
  · rw [if_pos h, h]
  · rw [if_neg h]
/-- independent sets by what is taken away of bases: elements below k -/
def x_dn (b : Nat → Bool) : Nat → Nat → Bool
  | 0, S => b S
  | k + 1, S => x_dn b k S || x_dn b k (S ||| 2 ^ k)
theorem x_dni {b : Nat → Bool} : ∀ (k S : Nat), k ≤ 12 → (x_dn b k S = true ↔ ∃ B, b B = true ∧ (∀ i, S.testBit i = true → B.testBit i = true) ∧ (∀ i, B.testBit i = true → S.testBit i = true ∨ i < k))
  | 0, S, _ => by
    constructor
    · intro h
      exact ⟨S, h, fun _ h => h, fun _ h => Or.inl h⟩
    · rintro ⟨B, hB, h1, h2⟩
      have : S = B := Nat.eq_of_testBit_eq (fun i => by
        cases hb : B.testBit i
        · cases hs : S.testBit i
          · rfl
          · rw [h1 i hs] at hb; exact Bool.noConfusion hb
        · rcases h2 i hb with h | h
          · exact h
          · omega)
      rw [this]; exact hB
  | k + 1, S, hk => by
    have i1 := x_dni (b := b) k S (by omega)
    have i2 := x_dni (b := b) k (S ||| 2 ^ k) (by omega)
    show (x_dn b k S || x_dn b k (S ||| 2 ^ k)) = true ↔ _
    rw [Bool.or_eq_true, i1, i2]
    constructor
    · rintro (⟨B, hB, h1, h2⟩ | ⟨B, hB, h1, h2⟩)
      · exact ⟨B, hB, h1, fun i hi => (h2 i hi).imp id (fun h => by omega)⟩
      · refine ⟨B, hB, fun i hi => h1 i (by rw [Nat.testBit_or, hi]; rfl), fun i hi => ?_⟩
        rcases h2 i hi with h | h
        · rw [Nat.testBit_or, Nat.testBit_two_pow] at h
          by_cases z : k = i
          · exact Or.inr (by omega)
          · rw [decide_eq_false z, Bool.or_false] at h; exact Or.inl h
        · exact Or.inr (by omega)
    · rintro ⟨B, hB, h1, h2⟩
      by_cases q : B.testBit k = true
      · refine Or.inr ⟨B, hB, fun i hi => ?_, fun i hi => ?_⟩
        · rw [Nat.testBit_or, Nat.testBit_two_pow] at hi
          by_cases z : k = i
          · rw [← z]; exact q
          · rw [decide_eq_false z, Bool.or_false] at hi; exact h1 i hi
        · rw [Nat.testBit_or, Nat.testBit_two_pow]
          by_cases z : k = i
          · rw [decide_eq_true z]; simp
          · rcases h2 i hi with h | h
            · rw [h]; simp
            · exact Or.inr (by omega)
      · refine Or.inl ⟨B, hB, h1, fun i hi => ?_⟩
        rcases h2 i hi with h | h
        · exact Or.inl h
        · by_cases z : i = k
          · rw [z] at hi; exact absurd hi q
          · exact Or.inr (by omega)
/-- the most of all within a set, elements below k -/
def x_mu2 (f : Nat → Nat) : Nat → Nat → Nat
  | 0, S => f S
  | k + 1, S => max (x_mu2 f k S) (x_mu2 f k (x_mi S (2 ^ k)))
theorem x_mu2le {f : Nat → Nat} : ∀ (k S T : Nat), (∀ i, T.testBit i = true → S.testBit i = true) → (∀ i, S.testBit i = true → T.testBit i = true ∨ i < k) → f T ≤ x_mu2 f k S
  | 0, S, T, h1, h2 => by
    have : S = T := Nat.eq_of_testBit_eq (fun i => by
      cases hb : S.testBit i
      · cases hs : T.testBit i
        · rfl
        · rw [h1 i hs] at hb; exact Bool.noConfusion hb
      · rcases h2 i hb with h | h
        · exact h.symm
        · omega)
    rw [this]; exact Nat.le_refl _
  | k + 1, S, T, h1, h2 => by
    show f T ≤ max (x_mu2 f k S) (x_mu2 f k (x_mi S (2 ^ k)))
    by_cases q : T.testBit k = true
    · have := x_mu2le (f := f) k S T h1 (fun i hi => by
        rcases h2 i hi with h | h
        · exact Or.inl h
        · by_cases z : i = k
          · rw [z]; exact Or.inl q
          · exact Or.inr (by omega))
      omega
    · have := x_mu2le (f := f) k (x_mi S (2 ^ k)) T (fun i hi => by
        rw [x_mib, Nat.testBit_two_pow, h1 i hi]
        by_cases z : k = i
        · rw [z] at q; exact absurd hi q
        · rw [decide_eq_false z]; rfl) (fun i hi => by
        rw [x_mib, Nat.testBit_two_pow] at hi
        by_cases z : k = i
        · rw [decide_eq_true z] at hi; simp at hi
        · rw [decide_eq_false z] at hi
          rcases h2 i (by simpa using hi) with h | h
          · exact Or.inl h
          · exact Or.inr (by omega))
      omega
theorem x_mu2ex {f : Nat → Nat} : ∀ (k S : Nat), ∃ T, (∀ i, T.testBit i = true → S.testBit i = true) ∧ x_mu2 f k S = f T
  | 0, S => ⟨S, fun _ h => h, rfl⟩
  | k + 1, S => by
    show ∃ T, _ ∧ max (x_mu2 f k S) (x_mu2 f k (x_mi S (2 ^ k))) = f T
    by_cases q : x_mu2 f k (x_mi S (2 ^ k)) ≤ x_mu2 f k S
    · obtain ⟨T, h1, h2⟩ := x_mu2ex (f := f) k S
      exact ⟨T, h1, by omega⟩
    · obtain ⟨T, h1, h2⟩ := x_mu2ex (f := f) k (x_mi S (2 ^ k))
      exact ⟨T, fun i hi => by have := h1 i hi; rw [x_mib] at this; simp at this; exact this.1, by omega⟩
/-- both together: the rank -/
def x_in (b : Nat → Bool) (n S : Nat) : Nat := if x_dn b n S = true then x_n S else 0
theorem x_rkmu {n r : Nat} {b : Nat → Bool} (h : x_M n r b) {S : Nat} (hS : S < 2 ^ n) : x_mu2 (x_in b n) n S = x_rk b S := by
  refine Nat.le_antisymm ?_ ?_
  · obtain ⟨T, h1, h2⟩ := x_mu2ex (f := x_in b n) n S
    rw [h2]
    unfold x_in
    by_cases q : x_dn b n T = true
    · rw [if_pos q]
      obtain ⟨B, hB, i1, i2⟩ := (x_dni n T h.1).mp q
      have := x_indr h hB (fun i _ hi => i1 i hi)
      rw [← this]
      exact x_rkm h (fun i _ hi => h1 i hi)
    · rw [if_neg q]; exact Nat.zero_le _
  · obtain ⟨B, hB, e⟩ := x_rkex h S
    rw [← e]
    have hb := h.2.2.1 B hB
    have hd : x_dn b n (S &&& B) = true := (x_dni n _ h.1).mpr ⟨B, hB, fun i hi => by rw [Nat.testBit_and] at hi; simp at hi; exact hi.2, fun i hi => by
      by_cases q : i < n
      · exact Or.inr q
      · rw [x_hi hb.1 (by omega)] at hi; exact Bool.noConfusion hi⟩
    have := x_mu2le (f := x_in b n) n S (S &&& B) (fun i hi => by rw [Nat.testBit_and] at hi; simp at hi; exact hi.1) (fun i hi => by
      by_cases q : i < n
      · exact Or.inr q
      · rw [x_hi hS (by omega)] at hi; exact Bool.noConfusion hi)
    unfold x_in at this
    rw [if_pos hd] at this
    exact this
