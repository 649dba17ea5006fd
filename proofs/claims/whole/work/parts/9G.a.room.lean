/-! PURE: room, lengths and what they cost -/
def x_nS (F : Nat → Nat) : Nat → Nat
  | 0 => 0
  | k + 1 => x_nS F k + F k
theorem x_nSc {F G : Nat → Nat} : ∀ k, (∀ x, x < k → F x = G x) → x_nS F k = x_nS G k
  | 0, _ => rfl
  | k + 1, h => by
    unfold x_nS
    rw [x_nSc k (fun x hx => h x (by omega)), h k (by omega)]
theorem x_nSb {F : Nat → Nat} {B : Nat} : ∀ k, (∀ x, x < k → F x ≤ B) → x_nS F k ≤ k * B
  | 0, _ => Nat.zero_le _
  | k + 1, h => by
    have h1 := x_nSb k (fun x hx => h x (by omega))
    have h2 := h k (by omega)
    unfold x_nS
    rw [Nat.succ_mul]
    omega
/-- the lengths of a matroid's arrays, in all -/
def x_W7 (g : Nat → Nat) : Nat := g 6 + g 7 + g 8 + g 20 + g 21 + g 22 + g 23
def x_SW (sk : Nat → Nat → Nat) (k : Nat) : Nat := x_nS (fun x => x_W7 (sk x)) k
theorem x_SWu {sk : Nat → Nat → Nat} {f : Nat} {r : Nat → Nat} : ∀ k, f < k → x_SW (va_up sk f r) k + x_W7 (sk f) = x_SW sk k + x_W7 r
  | 0, h => absurd h (Nat.not_lt_zero _)
  | k + 1, h => by
    show x_SW (va_up sk f r) k + x_W7 (va_up sk f r k) + x_W7 (sk f) = x_SW sk k + x_W7 (sk k) + x_W7 r
    by_cases q : f = k
    · subst q
      rw [va_up_self]
      have : x_SW (va_up sk f r) f = x_SW sk f := x_nSc f (fun x hx => by rw [va_up_ne _ _ (by omega)])
      omega
    · rw [va_up_ne _ _ (fun z => q z.symm)]
      have := x_SWu (sk := sk) (r := r) k (show f < k by omega)
      omega
/-- a row of lengths that is right -/
def x_rok (g : Nat → Nat) : Prop := c_p2 (g 6) ∧ 16 ≤ g 6 ∧ g 6 ≤ 4096 ∧ c_p2 (g 7) ∧ 16 ≤ g 7 ∧ g 7 ≤ 4096 ∧ (g 8 = 0 ∨ g 8 = 169) ∧ ∀ k, k < 4 → 16 ≤ g (20 + k) ∧ ∃ j, g (20 + k) * 4 ^ j = 4096
theorem x_4le {l : Nat} (h : ∃ j, l * 4 ^ j = 4096) : l ≤ 4096 := by
  obtain ⟨j, h⟩ := h
  have : 1 ≤ 4 ^ j := Nat.pow_pos (by decide)
  rw [← h]
  exact Nat.le_mul_of_pos_right _ this
theorem x_rokW {g : Nat → Nat} (h : x_rok g) : x_W7 g ≤ 24745 := by
  obtain ⟨_, _, h6, _, _, h7, h8, h4⟩ := h
  have a0 : g 20 ≤ 4096 := x_4le (h4 0 (by decide)).2
  have a1 : g 21 ≤ 4096 := x_4le (h4 1 (by decide)).2
  have a2 : g 22 ≤ 4096 := x_4le (h4 2 (by decide)).2
  have a3 : g 23 ≤ 4096 := x_4le (h4 3 (by decide)).2
  unfold x_W7
  clear h4
  rcases h8 with h8 | h8 <;> omega
theorem x_p12 {n : Nat} (hn : n ≤ 12) : 2 ^ n ≤ 4096 := Nat.pow_le_pow_right (n := 2) (by decide) hn
/-- ranks asked for -/
theorem x_rk7 {g : Nat → Nat} {n : Nat} (h : x_rok g) (hn : n ≤ 12) : x_rok (x_g7 n g) ∧ (if g 7 < 2 ^ n then 2 ^ n else 0) + 2 * x_W7 g ≤ 2 * x_W7 (x_g7 n g) ∧ 4 * (if g 7 < 2 ^ n then 1 else 0) + x_W7 g ≤ x_W7 (x_g7 n g) := by
  obtain ⟨p6, a6, b6, p7, a7, b7, h8, h4⟩ := h
  have hp := x_p12 hn
  have e7 : x_g7 n g 7 = max (g 7) (2 ^ n) := rfl
  have eo : ∀ k, k ≠ 7 → x_g7 n g k = g k := fun k hk => if_neg hk
  have eW : x_W7 (x_g7 n g) + g 7 = x_W7 g + max (g 7) (2 ^ n) := by
    unfold x_W7
    rw [e7, eo 6 (by decide), eo 8 (by decide), eo 20 (by decide), eo 21 (by decide), eo 22 (by decide), eo 23 (by decide)]
    omega
  refine ⟨⟨by rw [eo 6 (by decide)]; exact p6, by rw [eo 6 (by decide)]; exact a6, by rw [eo 6 (by decide)]; exact b6, by rw [e7]; exact c_p2m p7, by rw [e7]; omega, by rw [e7]; omega, by rw [eo 8 (by decide)]; exact h8, fun k hk => by rw [eo (20 + k) (by omega)]; exact h4 k hk⟩, ?_, ?_⟩
  · by_cases q : g 7 < 2 ^ n
    · rw [if_pos q]
      have := c_p2d p7 ⟨n, rfl⟩ q
      clear h4 p6 p7
      omega
    · rw [if_neg q]
      clear h4 p6 p7
      omega
  · by_cases q : g 7 < 2 ^ n
    · rw [if_pos q]
      have := c_p2d p7 ⟨n, rfl⟩ q
      clear h4 p6 p7
      omega
    · rw [if_neg q]
      clear h4 p6 p7
      omega
theorem x_gr4l : ∀ (t l c : Nat), x_gr t l c = l ∨ 4 * l ≤ x_gr t l c
  | 0, l, _ => Or.inl rfl
  | t + 1, l, c => by
    unfold x_gr
    split
    · exact Or.inl rfl
    · exact Or.inr (x_grle t (4 * l) c)
/-- a list asked for -/
theorem x_rkL {g : Nat → Nat} {n N k : Nat} (h : x_rok g) (hn : n ≤ 12) (hN : N ≤ 4096) (hk : k < 4) : x_rok (x_gL n N k g) ∧ x_lcs n N k g + 2 * x_W7 g ≤ 2 * x_W7 (x_gL n N k g) ∧ 4 * x_lcc n N k g + x_W7 g ≤ x_W7 (x_gL n N k g) := by
  by_cases q0 : g (30 + k) = 0
  · obtain ⟨p6, a6, b6, p7, a7, b7, h8, h4⟩ := h
    have hp := x_p12 hn
    have e7 : x_gL n N k g 7 = max (g 7) (2 ^ n) := by unfold x_gL; rw [if_pos q0, if_pos rfl]
    have ek : x_gL n N k g (20 + k) = x_gr 4 (g (20 + k)) N := by unfold x_gL; rw [if_pos q0, if_neg (by omega), if_pos rfl]
    have eo : ∀ j, j ≠ 7 → j ≠ 20 + k → j < 30 → x_gL n N k g j = g j := fun j h1 h2 h3 => by unfold x_gL; rw [if_pos q0, if_neg h1, if_neg h2, if_neg (by omega)]
    have hk4 := h4 k hk
    have hj4 := x_gr4 4 (g (20 + k)) N (by have := hk4.1; omega) hN hk4.2
    have hgl := x_grle 4 (g (20 + k)) N
    have hg4 := x_gr4l 4 (g (20 + k)) N
    have eW : x_W7 (x_gL n N k g) + g 7 + g (20 + k) = x_W7 g + max (g 7) (2 ^ n) + x_gr 4 (g (20 + k)) N := by
      unfold x_W7
      rw [e7, eo 6 (by decide) (by omega) (by decide), eo 8 (by decide) (by omega) (by decide)]
      rcases (show k = 0 ∨ k = 1 ∨ k = 2 ∨ k = 3 by omega) with rfl | rfl | rfl | rfl
      · rw [show x_gL n N 0 g 20 = x_gr 4 (g (20 + 0)) N from ek, eo 21 (by decide) (by decide) (by decide), eo 22 (by decide) (by decide) (by decide), eo 23 (by decide) (by decide) (by decide)]
        show g 6 + max (g 7) (2 ^ n) + g 8 + x_gr 4 (g 20) N + g 21 + g 22 + g 23 + g 7 + g 20 = g 6 + g 7 + g 8 + g 20 + g 21 + g 22 + g 23 + max (g 7) (2 ^ n) + x_gr 4 (g 20) N
        omega
      · rw [show x_gL n N 1 g 21 = x_gr 4 (g (20 + 1)) N from ek, eo 20 (by decide) (by decide) (by decide), eo 22 (by decide) (by decide) (by decide), eo 23 (by decide) (by decide) (by decide)]
        show g 6 + max (g 7) (2 ^ n) + g 8 + g 20 + x_gr 4 (g 21) N + g 22 + g 23 + g 7 + g 21 = g 6 + g 7 + g 8 + g 20 + g 21 + g 22 + g 23 + max (g 7) (2 ^ n) + x_gr 4 (g 21) N
        omega
      · rw [show x_gL n N 2 g 22 = x_gr 4 (g (20 + 2)) N from ek, eo 20 (by decide) (by decide) (by decide), eo 21 (by decide) (by decide) (by decide), eo 23 (by decide) (by decide) (by decide)]
        show g 6 + max (g 7) (2 ^ n) + g 8 + g 20 + g 21 + x_gr 4 (g 22) N + g 23 + g 7 + g 22 = g 6 + g 7 + g 8 + g 20 + g 21 + g 22 + g 23 + max (g 7) (2 ^ n) + x_gr 4 (g 22) N
        omega
      · rw [show x_gL n N 3 g 23 = x_gr 4 (g (20 + 3)) N from ek, eo 20 (by decide) (by decide) (by decide), eo 21 (by decide) (by decide) (by decide), eo 22 (by decide) (by decide) (by decide)]
        show g 6 + max (g 7) (2 ^ n) + g 8 + g 20 + g 21 + g 22 + x_gr 4 (g 23) N + g 7 + g 23 = g 6 + g 7 + g 8 + g 20 + g 21 + g 22 + g 23 + max (g 7) (2 ^ n) + x_gr 4 (g 23) N
        omega
    refine ⟨⟨by rw [eo 6 (by decide) (by omega) (by decide)]; exact p6, by rw [eo 6 (by decide) (by omega) (by decide)]; exact a6, by rw [eo 6 (by decide) (by omega) (by decide)]; exact b6, by rw [e7]; exact c_p2m p7, by rw [e7]; omega, by rw [e7]; omega, by rw [eo 8 (by decide) (by omega) (by decide)]; exact h8, fun k' hk' => ?_⟩, ?_, ?_⟩
    · by_cases q : k' = k
      · rw [q, ek]
        refine ⟨?_, hj4⟩
        have := hk4.1
        clear hj4 h4 hk4
        omega
      · rw [eo (20 + k') (by omega) (by omega) (by omega)]
        exact h4 k' hk'
    · unfold x_lcs
      rw [if_pos q0]
      have h16 := hk4.1
      clear hj4 h4 hk4
      by_cases q : g 7 < 2 ^ n
      · rw [if_pos q]
        have := c_p2d p7 ⟨n, rfl⟩ q
        clear p6 p7
        omega
      · rw [if_neg q]
        clear p6 p7
        omega
    · unfold x_lcc
      rw [if_pos q0]
      have h16 := hk4.1
      clear hj4 h4 hk4
      by_cases q : g 7 < 2 ^ n
      · rw [if_pos q]
        have := c_p2d p7 ⟨n, rfl⟩ q
        clear p6 p7
        omega
      · rw [if_neg q]
        clear p6 p7
        omega
  · have e : x_gL n N k g = g := funext (fun j => by unfold x_gL; rw [if_neg q0])
    rw [e]
    unfold x_lcs x_lcc
    rw [if_neg q0, if_neg q0]
    exact ⟨h, by omega, by omega⟩
/-- the polynomial asked for -/
theorem x_rkT {g : Nat → Nat} {n : Nat} (h : x_rok g) (hn : n ≤ 12) : x_rok (x_gT n g) ∧ x_tcs n g + 2 * x_W7 g ≤ 2 * x_W7 (x_gT n g) ∧ 4 * x_tcc n g + x_W7 g ≤ x_W7 (x_gT n g) := by
  by_cases q0 : g 29 = 0
  · obtain ⟨p6, a6, b6, p7, a7, b7, h8, h4⟩ := h
    have hp := x_p12 hn
    have e7 : x_gT n g 7 = max (g 7) (2 ^ n) := by unfold x_gT; rw [if_pos q0, if_pos rfl]
    have e8 : x_gT n g 8 = 169 := by unfold x_gT; rw [if_pos q0, if_neg (by decide), if_pos rfl]
    have eo : ∀ j, j ≠ 7 → j ≠ 8 → j ≠ 29 → x_gT n g j = g j := fun j h1 h2 h3 => by unfold x_gT; rw [if_pos q0, if_neg h1, if_neg h2, if_neg h3]
    have eW : x_W7 (x_gT n g) + g 7 + g 8 = x_W7 g + max (g 7) (2 ^ n) + 169 := by
      unfold x_W7
      rw [e7, e8, eo 6 (by decide) (by decide) (by decide), eo 20 (by decide) (by decide) (by decide), eo 21 (by decide) (by decide) (by decide), eo 22 (by decide) (by decide) (by decide), eo 23 (by decide) (by decide) (by decide)]
      omega
    refine ⟨⟨by rw [eo 6 (by decide) (by decide) (by decide)]; exact p6, by rw [eo 6 (by decide) (by decide) (by decide)]; exact a6, by rw [eo 6 (by decide) (by decide) (by decide)]; exact b6, by rw [e7]; exact c_p2m p7, by rw [e7]; omega, by rw [e7]; omega, by rw [e8]; exact Or.inr rfl, fun k hk => by rw [eo (20 + k) (by omega) (by omega) (by omega)]; exact h4 k hk⟩, ?_, ?_⟩
    · unfold x_tcs
      rw [if_pos q0]
      clear h4
      by_cases q : g 7 < 2 ^ n
      · rw [if_pos q]
        have := c_p2d p7 ⟨n, rfl⟩ q
        clear p6 p7
        split <;> omega
      · rw [if_neg q]
        clear p6 p7
        split <;> omega
    · unfold x_tcc
      rw [if_pos q0]
      clear h4
      by_cases q : g 7 < 2 ^ n
      · rw [if_pos q]
        have := c_p2d p7 ⟨n, rfl⟩ q
        clear p6 p7
        split <;> omega
      · rw [if_neg q]
        clear p6 p7
        split <;> omega
  · have e : x_gT n g = g := funext (fun j => by unfold x_gT; rw [if_neg q0])
    rw [e]
    unfold x_tcs x_tcc
    rw [if_neg q0, if_neg q0]
    exact ⟨h, by omega, by omega⟩
/-- signs asked for -/
theorem x_rkS {g : Nat → Nat} {n N : Nat} (h : x_rok g) (hn : n ≤ 12) (hN : N ≤ 4096) : x_rok (x_gS n N g) ∧ (0 < N → x_scs n N g + 2 * x_W7 g ≤ 2 * x_W7 (x_gS n N g) ∧ 4 * x_scc n N g + x_W7 g ≤ x_W7 (x_gS n N g)) ∧ x_W7 g ≤ x_W7 (x_gS n N g) := by
  obtain ⟨l1, l2, l3⟩ := x_rkL (k := 1) h hn hN (by decide)
  obtain ⟨m1, m2, m3⟩ := x_rk7 l1 hn
  unfold x_gS x_scs x_scc
  by_cases q : N = 0
  · rw [if_pos q]
    exact ⟨l1, fun w => by omega, by omega⟩
  · rw [if_neg q]
    exact ⟨m1, fun _ => ⟨by omega, by omega⟩, by omega⟩
