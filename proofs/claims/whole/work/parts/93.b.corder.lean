/-! PURE, the class: Orders.build, reach -/
/-- those of m elements among n -/
def x_sl (n m : Nat) : List Nat := ((x_Ln n).drop (x_st n m)).take (x_st n (m + 1) - x_st n m)
def x_b1 (n m : Nat) : List Nat := if m = 0 then [] else (x_sl n (m - 1)).map (fun S => 2 * S + 1)
def x_b0 (n m : Nat) : List Nat := (x_sl n m).map (fun S => 2 * S)
def x_pre (n : Nat) : Nat → List Nat
  | 0 => []
  | m + 1 => x_pre n m ++ (x_b1 n m ++ x_b0 n m)
set_option maxRecDepth 100000 in
theorem x_dbl : ∀ S, S < 2048 → x_n (2 * S) = x_n S ∧ x_n (2 * S + 1) = x_n S + 1 ∧ 2 * x_rev (2 * S) = x_rev S ∧ x_rev (2 * S + 1) = 2048 + x_rev (2 * S) ∧ x_rev (2 * S) < 2048 := by decide +kernel
theorem x_slm {n m S : Nat} (hn : n ≤ 12) : S ∈ x_sl n m ↔ S < 2 ^ n ∧ x_n S = m := by
  have hl := x_Lnl n (by omega)
  have hst := x_stl (m := n) (j := m + 1) hn
  have hmono := x_stm (n := n) (show m ≤ m + 1 by omega)
  unfold x_sl
  constructor
  · intro h
    obtain ⟨j, hj, e⟩ := List.getElem_of_mem h
    have h1 : (((x_Ln n).drop (x_st n m)).take (x_st n (m + 1) - x_st n m))[j]? = some S := by rw [List.getElem?_eq_getElem hj, e]
    have hjl : j < x_st n (m + 1) - x_st n m := by
      rw [List.length_take] at hj; omega
    rw [List.getElem?_take_of_lt hjl, List.getElem?_drop] at h1
    have hlt : x_st n m + j < 2 ^ n := by omega
    have e2 := (x_orl hn hlt).2
    rw [h1] at e2
    have e3 : S = x_or n (x_st n m + j) := by simpa using e2
    rw [e3]
    exact ⟨(x_orl hn hlt).1, (x_sti hn hlt).mp ⟨by omega, by omega⟩⟩
  · rintro ⟨h1, h2⟩
    obtain ⟨i, hi, e⟩ := x_orx hn h1
    have hs := (x_sti (m := m) hn hi).mpr (by rw [e]; exact h2)
    have e2 := (x_orl hn hi).2
    refine List.mem_of_getElem? (i := i - x_st n m) ?_
    rw [List.getElem?_take_of_lt (by omega), List.getElem?_drop, show x_st n m + (i - x_st n m) = i by omega, e2, e]
theorem x_sll {n m : Nat} (hn : n ≤ 12) : (x_sl n m).length = x_st n (m + 1) - x_st n m := by
  have hl := x_Lnl n (by omega)
  have hst := x_stl (m := n) (j := m + 1) hn
  unfold x_sl
  rw [List.length_take, List.length_drop]; omega
theorem x_slp (n m : Nat) : (x_sl n m).Pairwise (fun a b => x_key a < x_key b) := List.Pairwise.sublist ((List.take_sublist _ _).trans (List.drop_sublist _ _)) (x_Lnp n)
theorem x_slg {n m j : Nat} (hn : n ≤ 12) (hj : j < x_st n (m + 1) - x_st n m) : (x_sl n m)[j]? = some (x_or n (x_st n m + j)) := by
  have hl := x_Lnl n (by omega)
  have hst := x_stl (m := n) (j := m + 1) hn
  unfold x_sl
  rw [List.getElem?_take_of_lt hj, List.getElem?_drop, (x_orl hn (by omega)).2]
theorem x_keyr {S T : Nat} (hn : x_n S = x_n T) (h : x_rev T < x_rev S) : x_key S < x_key T := by
  unfold x_key
  have := x_revlt S
  omega
theorem x_revk {S T : Nat} (hn : x_n S = x_n T) (h : x_key S < x_key T) : x_rev T < x_rev S := by
  unfold x_key at h
  have := x_revlt S
  have := x_revlt T
  omega
theorem x_b1m {n m S : Nat} (hn : n ≤ 11) : S ∈ x_b1 n m ↔ S % 2 = 1 ∧ S / 2 < 2 ^ n ∧ x_n S = m := by
  have hp : 2 ^ n ≤ 2048 := Nat.pow_le_pow_right (by decide) hn
  unfold x_b1
  by_cases q : m = 0
  · rw [if_pos q]
    constructor
    · intro h; exact absurd h (by simp)
    · rintro ⟨h1, h2, h3⟩
      have := (x_dbl (S / 2) (by omega)).2.1
      rw [show 2 * (S / 2) + 1 = S by omega] at this
      omega
  · rw [if_neg q, List.mem_map]
    constructor
    · rintro ⟨T, hT, e⟩
      have := (x_slm (by omega)).mp hT
      have d := (x_dbl T (by omega)).2.1
      rw [e] at d
      exact ⟨by omega, by rw [show S / 2 = T by omega]; exact this.1, by omega⟩
    · rintro ⟨h1, h2, h3⟩
      have d := (x_dbl (S / 2) (by omega)).2.1
      rw [show 2 * (S / 2) + 1 = S by omega] at d
      exact ⟨S / 2, (x_slm (by omega)).mpr ⟨h2, by omega⟩, by omega⟩
theorem x_b0m {n m S : Nat} (hn : n ≤ 11) : S ∈ x_b0 n m ↔ S % 2 = 0 ∧ S / 2 < 2 ^ n ∧ x_n S = m := by
  have hp : 2 ^ n ≤ 2048 := Nat.pow_le_pow_right (by decide) hn
  unfold x_b0
  rw [List.mem_map]
  constructor
  · rintro ⟨T, hT, e⟩
    have := (x_slm (by omega)).mp hT
    have d := (x_dbl T (by omega)).1
    rw [e] at d
    exact ⟨by omega, by rw [show S / 2 = T by omega]; exact this.1, by omega⟩
  · rintro ⟨h1, h2, h3⟩
    have d := (x_dbl (S / 2) (by omega)).1
    rw [show 2 * (S / 2) = S by omega] at d
    exact ⟨S / 2, (x_slm (by omega)).mpr ⟨h2, by omega⟩, by omega⟩
theorem x_prem {n S : Nat} (hn : n ≤ 11) : ∀ (m : Nat), S ∈ x_pre n m ↔ S / 2 < 2 ^ n ∧ x_n S < m
  | 0 => ⟨fun h => absurd h (by simp [x_pre]), fun h => absurd h.2 (Nat.not_lt_zero _)⟩
  | m + 1 => by
    show S ∈ x_pre n m ++ (x_b1 n m ++ x_b0 n m) ↔ _
    rw [List.mem_append, List.mem_append, x_prem hn m, x_b1m hn, x_b0m hn]
    constructor
    · rintro (h | h | h)
      · exact ⟨h.1, by omega⟩
      · exact ⟨h.2.1, by omega⟩
      · exact ⟨h.2.1, by omega⟩
    · rintro ⟨h1, h2⟩
      by_cases q : x_n S < m
      · exact Or.inl ⟨h1, q⟩
      · rcases (show S % 2 = 1 ∨ S % 2 = 0 by omega) with z | z
        · exact Or.inr (Or.inl ⟨z, h1, by omega⟩)
        · exact Or.inr (Or.inr ⟨z, h1, by omega⟩)
theorem x_prep {n : Nat} (hn : n ≤ 11) : ∀ (m : Nat), (x_pre n m).Pairwise (fun a b => x_key a < x_key b)
  | 0 => List.Pairwise.nil
  | m + 1 => by
    have hp : 2 ^ n ≤ 2048 := Nat.pow_le_pow_right (by decide) hn
    show (x_pre n m ++ (x_b1 n m ++ x_b0 n m)).Pairwise _
    have mapP : ∀ (k d : Nat), d ≤ 1 → ((x_sl n k).map (fun S => 2 * S + d)).Pairwise (fun a b => x_key a < x_key b) := by
      intro k d hd
      rw [List.pairwise_map]
      refine List.Pairwise.imp_of_mem (fun {S T} hS hT hk => ?_) (x_slp n k)
      have m1 := (x_slm (by omega)).mp hS
      have m2 := (x_slm (by omega)).mp hT
      have d1 := x_dbl S (by omega)
      have d2 := x_dbl T (by omega)
      have hr := x_revk (m1.2.trans m2.2.symm) hk
      rcases (show d = 0 ∨ d = 1 by omega) with z | z
      · subst z
        refine x_keyr (by show x_n (2 * S) = x_n (2 * T); omega) ?_
        show x_rev (2 * T) < x_rev (2 * S)
        omega
      · subst z
        exact x_keyr (by omega) (by omega)
    rw [List.pairwise_append]
    refine ⟨x_prep hn m, ?_, fun S hS T hT => ?_⟩
    · rw [List.pairwise_append]
      refine ⟨?_, mapP m 0 (by omega), fun S hS T hT => ?_⟩
      · unfold x_b1
        by_cases q : m = 0
        · rw [if_pos q]; exact List.Pairwise.nil
        · rw [if_neg q]; exact mapP (m - 1) 1 (Nat.le_refl 1)
      · have h1 := (x_b1m hn).mp hS
        have h2 := (x_b0m hn).mp hT
        have d1 := x_dbl (S / 2) (by omega)
        have d2 := x_dbl (T / 2) (by omega)
        rw [show 2 * (S / 2) + 1 = S by omega] at d1
        rw [show 2 * (T / 2) = T by omega] at d2
        exact x_keyr (by omega) (by omega)
    · have h1 := (x_prem hn m).mp hS
      refine x_keyd ?_
      rw [List.mem_append] at hT
      rcases hT with z | z
      · have := (x_b1m hn).mp z; omega
      · have := (x_b0m hn).mp z; omega
/-- rising lists of the same members are the same -/
theorem x_sortu : ∀ (l m : List Nat), l.Pairwise (fun a b => x_key a < x_key b) → m.Pairwise (fun a b => x_key a < x_key b) → (∀ S, S ∈ l ↔ S ∈ m) → (∀ S, S ∈ l → S < 4096) → l = m
  | [], m, _, _, h, _ => by
    cases m with
    | nil => rfl
    | cons b t => exact absurd ((h b).mpr List.mem_cons_self) (by simp)
  | a :: s, m, hl, hm, h, h4 => by
    cases m with
    | nil => exact absurd ((h a).mp List.mem_cons_self) (by simp)
    | cons b t =>
      have hl' := List.pairwise_cons.mp hl
      have hm' := List.pairwise_cons.mp hm
      have ha := (h a).mp List.mem_cons_self
      have hb := (h b).mpr List.mem_cons_self
      have hab : a = b := by
        rcases List.mem_cons.mp ha with z | z
        · exact z
        · rcases List.mem_cons.mp hb with y | y
          · exact y.symm
          · have := hm'.1 a z
            have := hl'.1 b y
            omega
      subst hab
      congr 1
      refine x_sortu s t hl'.2 hm'.2 (fun S => ?_) (fun S hS => h4 S (List.mem_cons_of_mem _ hS))
      have hS := h S
      rw [List.mem_cons, List.mem_cons] at hS
      constructor
      · intro z
        rcases hS.mp (Or.inr z) with y | y
        · have := hl'.1 S z
          rw [y] at this; omega
        · exact y
      · intro z
        rcases hS.mpr (Or.inr z) with y | y
        · have := hm'.1 S z
          rw [y] at this; omega
        · exact y
theorem x_nlen {n S : Nat} (hn : n ≤ 12) (hS : S < 2 ^ n) : x_n S ≤ n := by
  have := x_nco hn hS
  omega
theorem x_bld {n : Nat} (hn : n ≤ 11) : x_pre n (n + 2) = x_Ln (n + 1) := by
  have hp : 2 ^ n ≤ 2048 := Nat.pow_le_pow_right (by decide) hn
  have hp1 : 2 ^ (n + 1) = 2 ^ n * 2 := Nat.pow_succ 2 n
  refine x_sortu _ _ (x_prep hn _) (x_Lnp _) (fun S => ?_) (fun S hS => by have := ((x_prem hn _).mp hS).1; omega)
  rw [x_prem hn, x_Lnm (by omega)]
  constructor
  · rintro ⟨h1, _⟩; omega
  · intro h
    have := x_nlen (n := n + 1) (by omega) h
    exact ⟨by omega, by omega⟩
theorem x_bst {n : Nat} (hn : n ≤ 11) : ∀ (m : Nat), m ≤ n + 2 → (x_pre n m).length = x_st (n + 1) m := by
  intro m hm
  unfold x_st
  have hpre : x_pre n m = (x_pre n (n + 2)).filter (fun S => decide (x_n S < m)) := by
    refine x_sortu _ _ (x_prep hn m) (List.Pairwise.filter _ (x_prep hn _)) (fun S => ?_) (fun S hS => by have := ((x_prem hn _).mp hS).1; have hp : 2 ^ n ≤ 2048 := Nat.pow_le_pow_right (by decide) hn; omega)
    rw [List.mem_filter, x_prem hn, x_prem hn]
    simp
    omega
  rw [hpre, x_bld hn]
theorem x_st0 (n : Nat) : x_st n 0 = 0 := by
  unfold x_st
  have : (x_Ln n).filter (fun S => decide (x_n S < 0)) = [] := by
    rw [List.filter_eq_nil_iff]
    intro S _; simp
  rw [this]; rfl
theorem x_stn {n m : Nat} (hn : n ≤ 12) (hm : n < m) : x_st n m = 2 ^ n := by
  rw [← x_Lnl n (by omega)]
  unfold x_st
  have : (x_Ln n).filter (fun S => decide (x_n S < m)) = x_Ln n := by
    rw [List.filter_eq_self]
    intro S hS
    have := x_nlen hn ((x_Lnm hn S).mp hS)
    simp; omega
  rw [this]
