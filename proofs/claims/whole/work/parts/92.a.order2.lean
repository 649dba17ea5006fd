/-! PURE: where the sets of so many elements stand; the first of the largest common independent sets -/
theorem x_keyi {S T : Nat} (hS : S < 4096) (hT : T < 4096) (h : x_key S = x_key T) : S = T := by
  have p := x_Lp
  rw [List.pairwise_iff_getElem] at p
  obtain ⟨i, hi, ei⟩ := List.getElem_of_mem ((x_Lm S).mpr hS)
  obtain ⟨j, hj, ej⟩ := List.getElem_of_mem ((x_Lm T).mpr hT)
  rcases Nat.lt_trichotomy i j with q | q | q
  · have := p i j hi hj q
    rw [ei, ej] at this; omega
  · subst q; rw [← ei, ← ej]
  · have := p j i hj hi q
    rw [ei, ej] at this; omega
theorem x_revlt (S : Nat) : x_rev S ≤ 4095 := by
  have : ∀ k, x_rev.x_cn2 k S < 2 ^ k := by
    intro k
    induction k with
    | zero => exact Nat.one_pos
    | succ k ih =>
      show 2 * x_rev.x_cn2 k S + (if S.testBit k = true then 1 else 0) < 2 ^ (k + 1)
      rw [Nat.pow_succ]
      split <;> omega
  have := this 12
  show x_rev.x_cn2 12 S ≤ 4095
  omega
theorem x_keyn {S T : Nat} (h : x_key S < x_key T) : x_n S ≤ x_n T := by
  unfold x_key at h
  have := x_revlt S
  have := x_revlt T
  omega
theorem x_keyd {S T : Nat} (h : x_n S < x_n T) : x_key S < x_key T := by
  unfold x_key
  have := x_revlt S
  have := x_revlt T
  omega
theorem x_orp {n i j : Nat} (hn : n ≤ 12) (hij : i < j) (hj : j < 2 ^ n) : x_key (x_or n i) < x_key (x_or n j) := by
  have hl := x_Lnl n (by omega)
  have p := x_Lnp n
  rw [List.pairwise_iff_getElem] at p
  have h1 := (x_orl hn (show i < 2 ^ n by omega)).2
  have h2 := (x_orl hn hj).2
  have := p i j (by omega) (by omega) hij
  rw [List.getElem?_eq_getElem (by omega)] at h1 h2
  have e1 : (x_Ln n)[i] = x_or n i := by simpa using h1
  have e2 : (x_Ln n)[j] = x_or n j := by simpa using h2
  rw [e1, e2] at this
  exact this
theorem x_stm {n j k : Nat} (h : j ≤ k) : x_st n j ≤ x_st n k := by
  unfold x_st
  have : ∀ l : List Nat, (l.filter (fun S => decide (x_n S < j))).length ≤ (l.filter (fun S => decide (x_n S < k))).length := by
    intro l
    induction l with
    | nil => exact Nat.le_refl 0
    | cons a t ih =>
      by_cases q : x_n a < j
      · rw [List.filter_cons_of_pos (by simpa using q), List.filter_cons_of_pos (by simp; omega)]
        show _ + 1 ≤ _ + 1
        omega
      · rw [List.filter_cons_of_neg (by simpa using q)]
        by_cases q2 : x_n a < k
        · rw [List.filter_cons_of_pos (by simpa using q2)]
          show _ ≤ _ + 1
          omega
        · rw [List.filter_cons_of_neg (by simpa using q2)]; exact ih
  exact this _
theorem x_stb {n i : Nat} (hn : n ≤ 12) (hi : i < 2 ^ n) : x_st n (x_n (x_or n i)) ≤ i ∧ i < x_st n (x_n (x_or n i) + 1) := by
  have hl := x_Lnl n (by omega)
  have mem : ∀ (l : List Nat) (S : Nat), S ∈ l → ∃ j, l[j]? = some S := fun l S h => by
    obtain ⟨j, hj, e⟩ := List.getElem_of_mem h
    exact ⟨j, by rw [List.getElem?_eq_getElem hj, e]⟩
  constructor
  · unfold x_st
    rw [← List.take_append_drop i (x_Ln n), List.filter_append, List.length_append]
    have h0 : ((x_Ln n).drop i).filter (fun S => decide (x_n S < x_n (x_or n i))) = [] := by
      rw [List.filter_eq_nil_iff]
      intro S hS
      obtain ⟨j, hj⟩ := mem _ _ hS
      rw [List.getElem?_drop] at hj
      have hlt : i + j < 2 ^ n := by
        refine Classical.byContradiction (fun q => ?_)
        rw [List.getElem?_eq_none (by omega)] at hj
        exact absurd hj (by simp)
      have e : x_or n (i + j) = S := by
        have := (x_orl hn hlt).2
        rw [hj] at this
        simpa using this.symm
      by_cases q : j = 0
      · subst q; rw [← e]; simp
      · have := x_keyn (x_orp hn (show i < i + j by omega) hlt)
        rw [e] at this
        simpa using this
    rw [h0]
    have : (((x_Ln n).take i).filter (fun S => decide (x_n S < x_n (x_or n i)))).length ≤ ((x_Ln n).take i).length := List.length_filter_le _ _
    rw [List.length_take] at this
    show _ + 0 ≤ i
    omega
  · unfold x_st
    rw [← List.take_append_drop (i + 1) (x_Ln n), List.filter_append, List.length_append]
    have h0 : ((x_Ln n).take (i + 1)).filter (fun S => decide (x_n S < x_n (x_or n i) + 1)) = (x_Ln n).take (i + 1) := by
      rw [List.filter_eq_self]
      intro S hS
      obtain ⟨j, hj⟩ := mem _ _ hS
      have hjl : j < i + 1 := by
        refine Classical.byContradiction (fun q => ?_)
        rw [List.getElem?_eq_none (by rw [List.length_take]; omega)] at hj
        exact absurd hj (by simp)
      rw [List.getElem?_take_of_lt hjl] at hj
      have e : x_or n j = S := by
        have := (x_orl hn (show j < 2 ^ n by omega)).2
        rw [hj] at this
        simpa using this.symm
      by_cases q : j = i
      · rw [← e, q]; simp
      · have := x_keyn (x_orp hn (show j < i by omega) hi)
        rw [e] at this
        simp; omega
    rw [h0, List.length_take]
    omega
theorem x_sti {n i m : Nat} (hn : n ≤ 12) (hi : i < 2 ^ n) : (x_st n m ≤ i ∧ i < x_st n (m + 1)) ↔ x_n (x_or n i) = m := by
  have h := x_stb hn hi
  constructor
  · rintro ⟨h1, h2⟩
    rcases Nat.lt_trichotomy (x_n (x_or n i)) m with q | q | q
    · have := x_stm (n := n) (show x_n (x_or n i) + 1 ≤ m by omega); omega
    · exact q
    · have := x_stm (n := n) (show m + 1 ≤ x_n (x_or n i) by omega); omega
  · intro e
    rw [← e]; exact h
/-- every set stands somewhere -/
theorem x_orx {n S : Nat} (hn : n ≤ 12) (hS : S < 2 ^ n) : ∃ i, i < 2 ^ n ∧ x_or n i = S := by
  have hl := x_Lnl n (by omega)
  obtain ⟨i, hi, e⟩ := List.getElem_of_mem ((x_Lnm hn S).mpr hS)
  refine ⟨i, by omega, ?_⟩
  have := (x_orl hn (show i < 2 ^ n by omega)).2
  rw [List.getElem?_eq_getElem hi, e] at this
  simpa using this.symm
/-- T is the first in ORDER of the largest sets with p -/
def x_top (n : Nat) (p : Nat → Bool) (T : Nat) : Prop := T < 2 ^ n ∧ p T = true ∧ ∀ S, S < 2 ^ n → p S = true → x_n S < x_n T ∨ (x_n S = x_n T ∧ x_key T ≤ x_key S)
theorem x_topu {n : Nat} {p : Nat → Bool} {T U : Nat} (hn : n ≤ 12) (h : x_top n p T) (h' : x_top n p U) : T = U := by
  have hp := b_p12 hn
  refine x_keyi (by have := h.1; omega) (by have := h'.1; omega) ?_
  have a := h.2.2 U h'.1 h'.2.1
  have c := h'.2.2 T h.1 h.2.1
  omega
