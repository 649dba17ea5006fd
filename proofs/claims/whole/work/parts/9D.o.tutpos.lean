/-! PURE: Tutte's coefficients are not negative -/
/-- a rank function on n elements -/
def x_mt2 (n : Nat) (ρ : Nat → Nat) : Prop := ρ 0 = 0 ∧ (∀ S e, S < 2 ^ n → e < n → S.testBit e = false → ρ S ≤ ρ (x_t S e) ∧ ρ (x_t S e) ≤ ρ S + 1) ∧ (∀ S e f, S < 2 ^ n → e < n → f < n → e ≠ f → S.testBit e = false → S.testBit f = false → ρ (x_t S e) = ρ S → ρ (x_t S f) = ρ S → ρ (x_t (x_t S e) f) = ρ S)
def x_TT (n : Nat) (ρ : Nat → Nat) (R i j : Nat) : Int := x_sm (2 ^ n) (fun S => x_c Int (R - ρ S) i * x_c Int (x_n S - ρ S) j)
theorem x_cc (a i : Nat) : x_c Int (a + 1) i + x_c Int a i = if i = 0 then 0 else x_c Int a (i - 1) := by
  show ((if i = 0 then (0 : Int) else x_c Int a (i - 1)) - x_c Int a i) + x_c Int a i = _
  split <;> omega
section TPO
variable {n : Nat} {ρ : Nat → Nat}
/-- what adds nothing to a set adds nothing to a greater one -/
theorem x_mtc (h : x_mt2 n ρ) {S e f : Nat} (hS : S < 2 ^ n) (he : e < n) (hf : f < n) (hef : e ≠ f) (h1 : S.testBit e = false) (h2 : S.testBit f = false) (h0 : ρ (x_t S e) = ρ S) : ρ (x_t (x_t S f) e) = ρ (x_t S f) := by
  obtain ⟨a1, a2, a3⟩ := h
  have b1 := a2 S f hS hf h2
  have b2 := a2 (x_t S f) e (x_tl hS hf) he (by rw [x_tbn hef]; exact h1)
  have b3 := a2 (x_t S e) f (x_tl hS he) hf (by rw [x_tbn (fun q => hef q.symm)]; exact h2)
  rw [x_tc] at b2 ⊢
  by_cases q : ρ (x_t S f) = ρ S
  · rw [a3 S e f hS he hf hef h1 h2 h0 q, q]
  · omega
/-- rank functions of fewer elements -/
theorem x_mtd (h : x_mt2 (n + 1) ρ) : x_mt2 n ρ := by
  have hp : ∀ {S}, S < 2 ^ n → S < 2 ^ (n + 1) := fun {S} hS => by rw [Nat.pow_succ]; omega
  exact ⟨h.1, fun S e hS he hb => h.2.1 S e (hp hS) (by omega) hb, fun S e f hS he hf q q1 q2 => h.2.2 S e f (hp hS) (by omega) (by omega) q q1 q2⟩
theorem x_mtk (h : x_mt2 (n + 1) ρ) : x_mt2 n (fun S => ρ (x_t S n) - ρ (x_t 0 n)) ∧ ∀ S, S < 2 ^ n → ρ (x_t 0 n) ≤ ρ (x_t S n) := by
  have hp : ∀ {S}, S < 2 ^ n → S < 2 ^ (n + 1) := fun {S} hS => by rw [Nat.pow_succ]; omega
  have hb : ∀ {S}, S < 2 ^ n → S.testBit n = false := fun {S} hS => x_hi hS (Nat.le_refl n)
  have up : ∀ S, S < 2 ^ n → ∀ e, e < n → S.testBit e = false → ρ (x_t S n) ≤ ρ (x_t (x_t S e) n) ∧ ρ (x_t (x_t S e) n) ≤ ρ (x_t S n) + 1 := fun S hS e he q => by
    rw [x_tc]
    exact h.2.1 (x_t S n) e (x_tl (hp hS) (by omega)) (by omega) (by rw [x_tbn (by omega)]; exact q)
  have mono : ∀ k, k ≤ n → ∀ S, S < 2 ^ n → ρ (x_t 0 n) ≤ ρ (x_t (S % 2 ^ k) n) := fun k => by
    induction k with
    | zero => intro _ S _; rw [Nat.pow_zero, Nat.mod_one]; exact Nat.le_refl _
    | succ k ih =>
      intro hk S hS
      have i1 := ih (by omega) S hS
      have hlt : S % 2 ^ k < 2 ^ n := Nat.lt_of_le_of_lt (Nat.mod_le _ _) hS
      have hlt' : S % 2 ^ (k + 1) < 2 ^ n := Nat.lt_of_le_of_lt (Nat.mod_le _ _) hS
      have hbk : (S % 2 ^ k).testBit k = false := by rw [x_mb, decide_eq_false (Nat.lt_irrefl k), Bool.false_and]
      by_cases q : S.testBit k = true
      · have e : S % 2 ^ (k + 1) = x_t (S % 2 ^ k) k := Nat.eq_of_testBit_eq (fun j => by
          rw [x_mb]
          by_cases w : j = k
          · rw [w, x_tbs, hbk, q, decide_eq_true (by omega)]; rfl
          · rw [x_tbn w, x_mb]
            by_cases w2 : j < k
            · rw [decide_eq_true w2, decide_eq_true (show j < k + 1 by omega)]
            · rw [decide_eq_false w2, decide_eq_false (show ¬ j < k + 1 by omega)])
        rw [e]
        have := (up (S % 2 ^ k) hlt k (by omega) hbk).1
        omega
      · have e : S % 2 ^ (k + 1) = S % 2 ^ k := Nat.eq_of_testBit_eq (fun j => by
          rw [x_mb, x_mb]
          by_cases w : j = k
          · rw [w, Bool.eq_false_iff.2 q, Bool.and_false, Bool.and_false]
          · by_cases w2 : j < k
            · rw [decide_eq_true w2, decide_eq_true (show j < k + 1 by omega)]
            · rw [decide_eq_false w2, decide_eq_false (show ¬ j < k + 1 by omega)])
        rw [e]; exact i1
  have mono' : ∀ S, S < 2 ^ n → ρ (x_t 0 n) ≤ ρ (x_t S n) := fun S hS => by
    have := mono n (Nat.le_refl n) S hS
    rw [Nat.mod_eq_of_lt hS] at this; exact this
  refine ⟨⟨Nat.sub_self _, fun S e hS he q => ?_, fun S e f hS he hf q q1 q2 q3 q4 => ?_⟩, mono'⟩
  · have u1 := up S hS e he q
    have u2 := mono' S hS
    show ρ (x_t S n) - ρ (x_t 0 n) ≤ ρ (x_t (x_t S e) n) - ρ (x_t 0 n) ∧ ρ (x_t (x_t S e) n) - ρ (x_t 0 n) ≤ ρ (x_t S n) - ρ (x_t 0 n) + 1
    omega
  · have q3 : ρ (x_t (x_t S e) n) - ρ (x_t 0 n) = ρ (x_t S n) - ρ (x_t 0 n) := q3
    have q4 : ρ (x_t (x_t S f) n) - ρ (x_t 0 n) = ρ (x_t S n) - ρ (x_t 0 n) := q4
    have u2 := mono' S hS
    have u3 := mono' _ (x_tl hS he)
    have u4 := mono' _ (x_tl hS hf)
    have e1 : x_t (x_t S e) n = x_t (x_t S n) e := x_tc _ _ _
    have e2 : x_t (x_t S f) n = x_t (x_t S n) f := x_tc _ _ _
    have e3 : x_t (x_t (x_t S e) f) n = x_t (x_t (x_t S n) e) f := by rw [x_tc, e1]
    have := h.2.2 (x_t S n) e f (x_tl (hp hS) (by omega)) (by omega) (by omega) q (by rw [x_tbn (by omega)]; exact q1) (by rw [x_tbn (by omega)]; exact q2) (by rw [← e1]; omega) (by rw [← e2]; omega)
    show ρ (x_t (x_t (x_t S e) f) n) - ρ (x_t 0 n) = ρ (x_t S n) - ρ (x_t 0 n)
    rw [e3, this]
/-- from a set to a greater one, one element after the other -/
theorem x_mtu (h : x_mt2 (n + 1) ρ) {S : Nat} (hS : S < 2 ^ n) (h0 : ρ (x_t S n) = ρ S) {Y : Nat} (hY : Y < 2 ^ n) (hsub : ∀ i, S.testBit i = true → Y.testBit i = true) : ρ (x_t Y n) = ρ Y := by
  have hp : ∀ {S}, S < 2 ^ n → S < 2 ^ (n + 1) := fun {S} hS => by rw [Nat.pow_succ]; omega
  have hb : ∀ {S}, S < 2 ^ n → S.testBit n = false := fun {S} hS => x_hi hS (Nat.le_refl n)
  have key : ∀ k, k ≤ n → ∃ X, X < 2 ^ n ∧ ρ (x_t X n) = ρ X ∧ (∀ i, i < k → X.testBit i = Y.testBit i) ∧ (∀ i, k ≤ i → X.testBit i = S.testBit i) := fun k => by
    induction k with
    | zero => intro _; exact ⟨S, hS, h0, fun i hi => absurd hi (Nat.not_lt_zero i), fun _ _ => rfl⟩
    | succ k ih =>
      intro hk
      obtain ⟨X, x1, x2, x3, x4⟩ := ih (by omega)
      by_cases q : X.testBit k = Y.testBit k
      · refine ⟨X, x1, x2, fun i hi => ?_, fun i hi => x4 i (by omega)⟩
        by_cases w : i = k
        · rw [w]; exact q
        · exact x3 i (by omega)
      · have hXk : X.testBit k = false := Bool.eq_false_iff.2 (fun w => q (by rw [w, hsub k (by rw [← x4 k (Nat.le_refl k)]; exact w)]))
        have hYk : Y.testBit k = true := by
          cases hy : Y.testBit k
          · rw [hXk, hy] at q; exact absurd rfl q
          · rfl
        refine ⟨x_t X k, x_tl x1 (by omega), x_mtc h (hp x1) (by omega) (by omega) (by omega) (hb x1) hXk x2, fun i hi => ?_, fun i hi => ?_⟩
        · by_cases w : i = k
          · rw [w, x_tbs, hXk, hYk]; rfl
          · rw [x_tbn w]; exact x3 i (by omega)
        · rw [x_tbn (by omega)]; exact x4 i (by omega)
  obtain ⟨X, x1, x2, x3, x4⟩ := key n (Nat.le_refl n)
  have e : X = Y := Nat.eq_of_testBit_eq (fun i => by
    by_cases q : i < n
    · exact x3 i q
    · rw [x_hi x1 (by omega), x_hi hY (by omega)])
  rw [← e]; exact x2
/-- ranks lie below sizes, and below that of all -/
theorem x_rkg (h : x_mt2 n ρ) {S : Nat} (hS : S < 2 ^ n) {Y : Nat} (hY : Y < 2 ^ n) (hsub : ∀ i, S.testBit i = true → Y.testBit i = true) (hn : n ≤ 12) : ρ S ≤ ρ Y ∧ ρ Y + x_n S ≤ ρ S + x_n Y := by
  have key : ∀ k, k ≤ n → ∃ X, X < 2 ^ n ∧ (ρ S ≤ ρ X ∧ ρ X + x_n S ≤ ρ S + x_n X) ∧ (∀ i, i < k → X.testBit i = Y.testBit i) ∧ (∀ i, k ≤ i → X.testBit i = S.testBit i) := fun k => by
    induction k with
    | zero => intro _; exact ⟨S, hS, ⟨Nat.le_refl _, Nat.le_refl _⟩, fun i hi => absurd hi (Nat.not_lt_zero i), fun _ _ => rfl⟩
    | succ k ih =>
      intro hk
      obtain ⟨X, x1, x2, x3, x4⟩ := ih (by omega)
      by_cases q : X.testBit k = Y.testBit k
      · refine ⟨X, x1, x2, fun i hi => ?_, fun i hi => x4 i (by omega)⟩
        by_cases w : i = k
        · rw [w]; exact q
        · exact x3 i (by omega)
      · have hXk : X.testBit k = false := Bool.eq_false_iff.2 (fun w => q (by rw [w, hsub k (by rw [← x4 k (Nat.le_refl k)]; exact w)]))
        have hYk : Y.testBit k = true := by
          cases hy : Y.testBit k
          · rw [hXk, hy] at q; exact absurd rfl q
          · rfl
        have u := h.2.1 X k x1 (by omega) hXk
        have un := x_nt0 (S := X) (e := k) (by omega) hXk
        refine ⟨x_t X k, x_tl x1 (by omega), ⟨by omega, by omega⟩, fun i hi => ?_, fun i hi => ?_⟩
        · by_cases w : i = k
          · rw [w, x_tbs, hXk, hYk]; rfl
          · rw [x_tbn w]; exact x3 i (by omega)
        · rw [x_tbn (by omega)]; exact x4 i (by omega)
  obtain ⟨X, x1, x2, x3, x4⟩ := key n (Nat.le_refl n)
  have e : X = Y := Nat.eq_of_testBit_eq (fun i => by
    by_cases q : i < n
    · exact x3 i q
    · rw [x_hi x1 (by omega), x_hi hY (by omega)])
  rw [← e]; exact x2
theorem x_rkn2 (hn : n ≤ 12) (h : x_mt2 n ρ) (S : Nat) (hS : S < 2 ^ n) : ρ S ≤ x_n S := by
  have := (x_rkg h (Nat.two_pow_pos n) hS (fun i q => by rw [Nat.zero_testBit] at q; exact Bool.noConfusion q) hn).2
  have h0 := h.1
  have h1 : x_n 0 = 0 := rfl
  omega
theorem x_rkm2 (hn : n ≤ 12) (h : x_mt2 n ρ) (S : Nat) (hS : S < 2 ^ n) : ρ S ≤ ρ (2 ^ n - 1) := by
  have hp := Nat.two_pow_pos n
  refine (x_rkg h hS (show 2 ^ n - 1 < 2 ^ n by omega) (fun k q => ?_) hn).1
  have : k < n := Classical.byContradiction (fun w => by rw [x_hi hS (by omega)] at q; exact Bool.noConfusion q)
  rw [Nat.testBit_two_pow_sub_one]; exact decide_eq_true this
theorem x_tn {S : Nat} (hS : S < 2 ^ n) : 2 ^ n + S = x_t S n := by
  refine Nat.eq_of_testBit_eq (fun i => ?_)
  by_cases q : i = n
  · rw [q, x_tbs, x_hi hS (Nat.le_refl n), Nat.testBit_two_pow_add_eq, x_hi hS (Nat.le_refl n)]
  · rw [x_tbn q]
    by_cases w : i < n
    · rw [Nat.testBit_two_pow_add_gt w]
    · have h1 : 2 ^ n + S < 2 ^ i := by
        have : 2 ^ (n + 1) ≤ 2 ^ i := Nat.pow_le_pow_right (by decide) (by omega)
        rw [Nat.pow_succ] at this
        omega
      rw [Nat.testBit_lt_two_pow h1, x_hi hS (by omega)]
theorem x_Tpos : ∀ (n : Nat) (ρ : Nat → Nat), n ≤ 12 → x_mt2 n ρ → ∀ i j, 0 ≤ x_TT n ρ (ρ (2 ^ n - 1)) i j ∧ x_TT n ρ (ρ (2 ^ n - 1)) i j ≤ 2 ^ n
  | 0, ρ, _, h, i, j => by
    have e : x_TT 0 ρ (ρ (2 ^ 0 - 1)) i j = 0 + x_c Int (ρ 0 - ρ 0) i * x_c Int (x_n 0 - ρ 0) j := rfl
    rw [e, Nat.sub_self, show x_n 0 - ρ 0 = 0 by rw [h.1]; rfl]
    show 0 ≤ 0 + (if i = 0 then (1 : Int) else 0) * (if j = 0 then 1 else 0) ∧ 0 + (if i = 0 then (1 : Int) else 0) * (if j = 0 then 1 else 0) ≤ 1
    split <;> split <;> decide
  | n + 1, ρ, hn, h, i, j => by
    have hp : ∀ {S}, S < 2 ^ n → S < 2 ^ (n + 1) := fun {S} hS => by rw [Nat.pow_succ]; omega
    have hb : ∀ {S}, S < 2 ^ n → S.testBit n = false := fun {S} hS => x_hi hS (Nat.le_refl n)
    have hpos : 0 < 2 ^ n := Nat.two_pow_pos n
    have hpow : (2 : Int) ^ (n + 1) = 2 ^ n + 2 ^ n := by rw [Int.pow_succ]; omega
    have hE : 2 ^ (n + 1) - 1 = x_t (2 ^ n - 1) n := by rw [← x_tn (by omega), Nat.pow_succ]; omega
    have split2 : ∀ (R : Nat), x_TT (n + 1) ρ R i j = x_sm (2 ^ n) (fun S => x_c Int (R - ρ S) i * x_c Int (x_n S - ρ S) j + x_c Int (R - ρ (x_t S n)) i * x_c Int (x_n S + 1 - ρ (x_t S n)) j) := fun R => by
      unfold x_TT
      rw [show (2 : Nat) ^ (n + 1) = 2 ^ n + 2 ^ n by rw [Nat.pow_succ]; omega, x_smadd, x_sma]
      congr 1
      refine x_smc (2 ^ n) (fun S hS => ?_)
      show x_c Int (R - ρ (2 ^ n + S)) i * x_c Int (x_n (2 ^ n + S) - ρ (2 ^ n + S)) j = _
      rw [x_tn hS, x_nt0 (by omega) (hb hS)]
    have hd := x_mtd h
    obtain ⟨hk, hk2⟩ := x_mtk h
    have i1 := fun i j => x_Tpos n ρ (by omega) hd i j
    have i2 := fun i j => x_Tpos n _ (by omega) hk i j
    have le : ∀ S, S < 2 ^ n → ρ S ≤ ρ (x_t S n) ∧ ρ (x_t S n) ≤ ρ S + 1 := fun S hS => h.2.1 S n (hp hS) (by omega) (hb hS)
    have hall : ∀ S, S < 2 ^ n → ∀ k, S.testBit k = true → (2 ^ n - 1).testBit k = true := fun S hS k q => by
      have : k < n := Classical.byContradiction (fun w => by rw [x_hi hS (by omega)] at q; exact Bool.noConfusion q)
      rw [Nat.testBit_two_pow_sub_one]; exact decide_eq_true this
    have rkn : ∀ S, S < 2 ^ n → ρ S ≤ x_n S := fun S hS => x_rkn2 (by omega) hd S hS
    have rkm : ∀ S, S < 2 ^ n → ρ S ≤ ρ (2 ^ n - 1) := fun S hS => x_rkm2 (by omega) hd S hS
    have hle := le (2 ^ n - 1) (by omega)
    by_cases hl : ρ (x_t 0 n) = ρ 0
    · -- a loop
      have hz : ∀ S, S < 2 ^ n → ρ (x_t S n) = ρ S := fun S hS => x_mtu h (show 0 < 2 ^ n by omega) hl hS (fun k q => by rw [Nat.zero_testBit] at q; exact Bool.noConfusion q)
      have hR : ρ (2 ^ (n + 1) - 1) = ρ (2 ^ n - 1) := by rw [hE, hz _ (by omega)]
      have e : x_TT (n + 1) ρ (ρ (2 ^ (n + 1) - 1)) i j = if j = 0 then 0 else x_TT n ρ (ρ (2 ^ n - 1)) i (j - 1) := by
        rw [split2, hR]
        have e1 : ∀ S, S < 2 ^ n → x_c Int (ρ (2 ^ n - 1) - ρ S) i * x_c Int (x_n S - ρ S) j + x_c Int (ρ (2 ^ n - 1) - ρ (x_t S n)) i * x_c Int (x_n S + 1 - ρ (x_t S n)) j = if j = 0 then 0 else x_c Int (ρ (2 ^ n - 1) - ρ S) i * x_c Int (x_n S - ρ S) (j - 1) := fun S hS => by
          have := rkn S hS
          rw [hz S hS, show x_n S + 1 - ρ S = (x_n S - ρ S) + 1 by omega]
          have cc := x_cc (x_n S - ρ S) j
          generalize x_c Int (ρ (2 ^ n - 1) - ρ S) i = A
          generalize x_c Int (x_n S - ρ S + 1) j = B at *
          generalize x_c Int (x_n S - ρ S) j = C at *
          have : A * C + A * B = A * (B + C) := by grind
          rw [this, cc]
          split
          · exact Int.mul_zero _
          · rfl
        rw [x_smc (2 ^ n) e1]
        split
        · exact x_sm0 (2 ^ n) (fun _ _ => rfl)
        · rfl
      rw [e]
      split
      · exact ⟨Int.le_refl 0, Int.le_of_lt (Int.pow_pos (by decide))⟩
      · have := i1 i (j - 1)
        have h2 : (0 : Int) ≤ 2 ^ n := Int.le_of_lt (Int.pow_pos (by decide))
        rw [hpow]; omega
    · by_cases hc : ρ (x_t (2 ^ n - 1) n) = ρ (2 ^ n - 1)
      · -- neither
        have hR : ρ (2 ^ (n + 1) - 1) = ρ (2 ^ n - 1) := by rw [hE, hc]
        have h01 := le 0 (by omega)
        have he1 : ρ (x_t 0 n) = 1 := by have := h.1; omega
        have e : x_TT (n + 1) ρ (ρ (2 ^ (n + 1) - 1)) i j = x_TT n ρ (ρ (2 ^ n - 1)) i j + x_TT n (fun S => ρ (x_t S n) - ρ (x_t 0 n)) ((fun S => ρ (x_t S n) - ρ (x_t 0 n)) (2 ^ n - 1)) i j := by
          rw [split2, hR, x_sma]
          unfold x_TT
          congr 1
          refine x_smc (2 ^ n) (fun S hS => ?_)
          have m1 := hk2 S hS
          have m2 := hk2 (2 ^ n - 1) (by omega)
          show _ = x_c Int (ρ (x_t (2 ^ n - 1) n) - ρ (x_t 0 n) - (ρ (x_t S n) - ρ (x_t 0 n))) i * x_c Int (x_n S - (ρ (x_t S n) - ρ (x_t 0 n))) j
          rw [hc, he1] at *
          rw [show ρ (2 ^ n - 1) - 1 - (ρ (x_t S n) - 1) = ρ (2 ^ n - 1) - ρ (x_t S n) by omega, show x_n S - (ρ (x_t S n) - 1) = x_n S + 1 - ρ (x_t S n) by omega]
        rw [e, hpow]
        have j1 := i1 i j
        have j2 := i2 i j
        exact ⟨Int.add_nonneg j1.1 j2.1, Int.add_le_add j1.2 j2.2⟩
      · -- a coloop
        have hz : ∀ S, S < 2 ^ n → ρ (x_t S n) = ρ S + 1 := fun S hS => by
          have := le S hS
          have : ¬ ρ (x_t S n) = ρ S := fun q => hc (x_mtu h hS q (show 2 ^ n - 1 < 2 ^ n by omega) (hall S hS))
          omega
        have hR : ρ (2 ^ (n + 1) - 1) = ρ (2 ^ n - 1) + 1 := by rw [hE, hz _ (by omega)]
        have e : x_TT (n + 1) ρ (ρ (2 ^ (n + 1) - 1)) i j = if i = 0 then 0 else x_TT n ρ (ρ (2 ^ n - 1)) (i - 1) j := by
          rw [split2, hR]
          have e1 : ∀ S, S < 2 ^ n → x_c Int (ρ (2 ^ n - 1) + 1 - ρ S) i * x_c Int (x_n S - ρ S) j + x_c Int (ρ (2 ^ n - 1) + 1 - ρ (x_t S n)) i * x_c Int (x_n S + 1 - ρ (x_t S n)) j = if i = 0 then 0 else x_c Int (ρ (2 ^ n - 1) - ρ S) (i - 1) * x_c Int (x_n S - ρ S) j := fun S hS => by
            have := rkm S hS
            rw [hz S hS, show ρ (2 ^ n - 1) + 1 - ρ S = (ρ (2 ^ n - 1) - ρ S) + 1 by omega, show ρ (2 ^ n - 1) + 1 - (ρ S + 1) = ρ (2 ^ n - 1) - ρ S by omega, show x_n S + 1 - (ρ S + 1) = x_n S - ρ S by omega]
            have cc := x_cc (ρ (2 ^ n - 1) - ρ S) i
            generalize x_c Int (x_n S - ρ S) j = A
            generalize x_c Int (ρ (2 ^ n - 1) - ρ S + 1) i = B at *
            generalize x_c Int (ρ (2 ^ n - 1) - ρ S) i = C at *
            have : B * A + C * A = (B + C) * A := by grind
            rw [this, cc]
            split
            · exact Int.zero_mul _
            · rfl
          rw [x_smc (2 ^ n) e1]
          split
          · exact x_sm0 (2 ^ n) (fun _ _ => rfl)
          · rfl
        rw [e]
        split
        · exact ⟨Int.le_refl 0, Int.le_of_lt (Int.pow_pos (by decide))⟩
        · have := i1 (i - 1) j
          have h2 : (0 : Int) ≤ 2 ^ n := Int.le_of_lt (Int.pow_pos (by decide))
          rw [hpow]; omega
/-- the ranks of a matroid are a rank function -/
theorem x_Mmt {r : Nat} {b : Nat → Bool} (h : x_M n r b) : x_mt2 n (x_rk b) ∧ x_rk b (2 ^ n - 1) = r := by
  have hn := h.1
  refine ⟨⟨?_, fun S e hS he q => ⟨x_rk0 h (by omega) q, x_rk1 h (by omega) q⟩, fun S e f hS he hf q q1 q2 q3 q4 => ?_⟩, ?_⟩
  · have := x_rkn (b := b) 0
    have h0 : x_n 0 = 0 := rfl
    omega
  · have h5 := x_clo h (X := S) (Y := x_t S e) (e := f) (by omega) (fun i _ w => by
      by_cases z : i = e
      · rw [z, q1] at w; exact Bool.noConfusion w
      · rw [x_tbn z]; exact w) (by rw [x_tbn (fun z => q z.symm)]; exact q2) q4
    rw [h5, q3]
  · exact x_rkall h (fun i hi => by rw [Nat.testBit_two_pow_sub_one]; exact decide_eq_true hi)
theorem x_i64sm (f : Nat → Int) : ∀ k, Int64.ofInt (x_sm k f) = x_sm k (fun S => Int64.ofInt (f S))
  | 0 => rfl
  | k + 1 => by
    show Int64.ofInt (x_sm k f + f k) = x_sm k (fun S => Int64.ofInt (f S)) + Int64.ofInt (f k)
    rw [Int64.ofInt_add, x_i64sm f k]
theorem x_i64c : ∀ a i, Int64.ofInt (x_c Int a i) = x_c Int64 a i
  | 0, i => by
    show Int64.ofInt (if i = 0 then 1 else 0) = if i = 0 then 1 else 0
    split <;> rfl
  | a + 1, i => by
    show Int64.ofInt ((if i = 0 then 0 else x_c Int a (i - 1)) - x_c Int a i) = (if i = 0 then 0 else x_c Int64 a (i - 1)) - x_c Int64 a i
    rw [Int64.ofInt_sub, x_i64c a i]
    split
    · rfl
    · rw [x_i64c a (i - 1)]
/-- the coefficients, as they are kept -/
theorem x_Tok {r : Nat} {b : Nat → Bool} (h : x_M n r b) (i j : Nat) : x_T Int64 b n r i j = nL (x_T Int b n r i j).toNat ∧ (x_T Int b n r i j).toNat < 2 ^ 31 := by
  obtain ⟨h1, h2⟩ := x_Mmt h
  have hp := x_Tpos n (x_rk b) h.1 h1 i j
  have e : x_TT n (x_rk b) (x_rk b (2 ^ n - 1)) i j = x_T Int b n r i j := by rw [h2]; rfl
  rw [e] at hp
  have e2 : x_T Int64 b n r i j = Int64.ofInt (x_T Int b n r i j) := by
    unfold x_T
    rw [x_i64sm]
    refine x_smc (2 ^ n) (fun S _ => ?_)
    rw [Int64.ofInt_mul, x_i64c, x_i64c]
  have hpw : (2 : Int) ^ n ≤ 2 ^ 12 := by
    have h3 : (2 : Nat) ^ n ≤ 2 ^ 12 := Nat.pow_le_pow_right (by decide) h.1
    have h4 : ((2 : Int)) ^ n = ((2 ^ n : Nat) : Int) := by rw [Int.natCast_pow]; rfl
    rw [h4]
    have h5 : ((2 : Int)) ^ 12 = ((2 ^ 12 : Nat) : Int) := by decide
    rw [h5]; omega
  have h5 : ((2 : Int)) ^ 12 = 4096 := by decide
  refine ⟨?_, by omega⟩
  rw [e2, iL_n, Int.toNat_of_nonneg hp.1]; rfl
end TPO
