/-! PURE: how great determinants are (Hadamard) -/
theorem x_smadd {R : Type} [Lean.Grind.CommRing R] (f : Nat → R) (a : Nat) : ∀ (b : Nat), x_sm (a + b) f = x_sm a f + x_sm b (fun i => f (a + i))
  | 0 => by show x_sm a f = x_sm a f + 0; grind
  | b + 1 => by
    show x_sm (a + b) f + f (a + b) = x_sm a f + (x_sm b (fun i => f (a + i)) + f (a + b))
    rw [x_smadd f a b]; grind
theorem x_thi {S n : Nat} (h : S < 2 ^ n) : x_t S n = 2 ^ n + S := by
  apply Nat.eq_of_testBit_eq
  intro i
  by_cases q : i = n
  · rw [q, x_tbs, x_hi h (Nat.le_refl n), Nat.testBit_two_pow_add_eq, x_hi h (Nat.le_refl n)]
  · rw [x_tbn q]
    by_cases q2 : i < n
    · rw [Nat.testBit_two_pow_add_gt q2]
    · rw [x_hi h (by omega)]
      refine (x_hi (n := n + 1) ?_ (by omega)).symm
      have : 2 ^ (n + 1) = 2 ^ n * 2 := Nat.pow_succ 2 n
      omega
theorem x_tadd {S n e : Nat} (h : S < 2 ^ n) (he : e < n) : x_t (2 ^ n + S) e = 2 ^ n + x_t S e := by
  rw [← x_thi h, x_tc, x_thi (x_tl h he)]
theorem x_smre {R : Type} [Lean.Grind.CommRing R] {e : Nat} : ∀ (n : Nat) (h : Nat → R), e < n → x_sm (2 ^ n) (fun S => h (x_t S e)) = x_sm (2 ^ n) h
  | 0, h, he => by omega
  | n + 1, h, he => by
    rw [show 2 ^ (n + 1) = 2 ^ n + 2 ^ n from by have := Nat.pow_succ 2 n; omega, x_smadd, x_smadd]
    by_cases q : e = n
    · subst q
      have e1 : x_sm (2 ^ e) (fun S => h (x_t S e)) = x_sm (2 ^ e) (fun S => h (2 ^ e + S)) := x_smc _ (fun S hS => by rw [x_thi hS])
      have e2 : x_sm (2 ^ e) (fun S => h (x_t (2 ^ e + S) e)) = x_sm (2 ^ e) h := x_smc _ (fun S hS => by rw [← x_thi hS, x_tt])
      rw [e1, e2]; grind
    · have e1 := x_smre n h (show e < n by omega)
      have e2 : x_sm (2 ^ n) (fun S => h (x_t (2 ^ n + S) e)) = x_sm (2 ^ n) (fun S => h (2 ^ n + S)) := by
        rw [← x_smre n (fun S => h (2 ^ n + S)) (show e < n by omega)]
        exact x_smc _ (fun S hS => by rw [x_tadd hS (show e < n by omega)])
      rw [e1, e2]
def x_nm (f : Nat → Int) : Int := x_sm (2 ^ 12) (fun S => f S * f S)
def x_i (r f : Nat → Int) (S : Nat) : Int := x_sm 12 (fun e => if S.testBit e = true then 0 else x_s Int (x_od S e) * r e * f (x_t S e))
theorem x_smsq {R : Type} [Lean.Grind.CommRing R] (f : Nat → R) (n : Nat) : x_sm n f * x_sm n f = x_sm n (fun e => x_sm n (fun g => f e * f g)) := by
  rw [← x_smm]
  refine x_smc n (fun e _ => ?_)
  rw [x_smm]; grind
theorem x_smge : ∀ (n : Nat) (f : Nat → Int), (∀ i, i < n → 0 ≤ f i) → 0 ≤ x_sm n f
  | 0, f, _ => Int.le_refl 0
  | n + 1, f, h => by
    have := x_smge n f (fun i hi => h i (by omega))
    have := h n (by omega)
    show 0 ≤ x_sm n f + f n
    omega
theorem x_smle1 : ∀ (n : Nat) (f : Nat → Int), (∀ i, i < n → 0 ≤ f i) → ∀ k, k < n → f k ≤ x_sm n f
  | 0, f, _, k, hk => by omega
  | n + 1, f, h, k, hk => by
    have h1 := x_smge n f (fun i hi => h i (by omega))
    have h2 := h n (by omega)
    show f k ≤ x_sm n f + f n
    by_cases q : k = n
    · rw [q]; omega
    · have := x_smle1 n f (fun i hi => h i (by omega)) k (by omega)
      omega
theorem x_sq (x : Int) : 0 ≤ x * x := by
  rcases Int.le_total 0 x with h | h
  · exact Int.mul_nonneg h h
  · exact Int.mul_nonneg_of_nonpos_of_nonpos h h
def x_bt (S e g : Nat) : Bool := (S.testBit e && S.testBit g) || (!S.testBit e && !S.testBit g)
theorem x_had (r f : Nat → Int) : x_nm (x_w r f) + x_nm (x_i r f) = x_dot r r * x_nm f := by
  let a : Nat → Nat → Int := fun S e => x_s Int (x_od S e) * r e * f (x_t S e)
  have h1 : x_nm (x_w r f) + x_nm (x_i r f) = x_sm (2 ^ 12) (fun S => x_sm 12 (fun e => x_sm 12 (fun g => if x_bt S e g = true then a S e * a S g else 0))) := by
    unfold x_nm
    rw [← x_sma]
    refine x_smc _ (fun S _ => ?_)
    unfold x_w x_i
    rw [x_smsq, x_smsq, ← x_sma]
    refine x_smc _ (fun e _ => ?_)
    rw [← x_sma]
    refine x_smc _ (fun g _ => ?_)
    unfold x_bt
    cases S.testBit e <;> cases S.testBit g
    · simp only [Bool.false_eq_true, if_false, Bool.and_false, Bool.not_false, Bool.and_true, Bool.false_or, if_true]; grind
    · simp
    · simp
    · simp only [if_true, Bool.and_true, Bool.not_true, Bool.and_false, Bool.or_false]; grind
  have h2 : x_sm (2 ^ 12) (fun S => x_sm 12 (fun e => x_sm 12 (fun g => if x_bt S e g = true then a S e * a S g else 0))) = x_sm 12 (fun e => x_sm 12 (fun g => x_sm (2 ^ 12) (fun S => if x_bt S e g = true then a S e * a S g else 0))) := by
    rw [x_sms]
    exact x_smc _ (fun e _ => x_sms _ _ _)
  have h3 : ∀ e, e < 12 → x_sm 12 (fun g => x_sm (2 ^ 12) (fun S => if x_bt S e g = true then a S e * a S g else 0)) = (r e * r e) * x_nm f := by
    intro e he
    rw [x_sm1 (k := e) 12 he (fun g hg hn => ?_)]
    · unfold x_nm
      rw [← x_smre 12 (fun S => f S * f S) he, ← x_smm]
      refine x_smc _ (fun S _ => ?_)
      have : x_bt S e e = true := by unfold x_bt; cases S.testBit e <;> rfl
      rw [if_pos this]
      show (x_s Int (x_od S e) * r e * f (x_t S e)) * (x_s Int (x_od S e) * r e * f (x_t S e)) = _
      have := x_ss (R := Int) (x_od S e)
      grind
    · -- e, g apart: turned round by changing both
      have neg : ∀ S, (if x_bt (x_t (x_t S e) g) e g = true then a (x_t (x_t S e) g) e * a (x_t (x_t S e) g) g else 0) = - (if x_bt S e g = true then a S e * a S g else 0) := by
        intro S
        have hb : x_bt (x_t (x_t S e) g) e g = x_bt S e g := by
          unfold x_bt
          rw [x_tbs, x_tbn (fun z => hn z.symm), x_tbs, x_tbn hn]
          cases S.testBit e <;> cases S.testBit g <;> rfl
        rw [hb]
        by_cases q : x_bt S e g = true
        · rw [if_pos q, if_pos q]
          show (x_s Int (x_od (x_t (x_t S e) g) e) * r e * f (x_t (x_t (x_t S e) g) e)) * (x_s Int (x_od (x_t (x_t S e) g) g) * r g * f (x_t (x_t (x_t S e) g) g)) = - ((x_s Int (x_od S e) * r e * f (x_t S e)) * (x_s Int (x_od S g) * r g * f (x_t S g)))
          rw [x_tt, x_tc S e g, x_tt, x_odt e he, x_odt e hg, x_odt g he, x_odt g hg, decide_eq_false (Nat.lt_irrefl e), decide_eq_false (Nat.lt_irrefl g), x_sx, x_sx, x_sx, x_sx, x_slt (R := Int) (fun z : e = g => hn z.symm)]
          have := x_ss (R := Int) (decide (g < e))
          show (x_s Int (x_od S e) * - x_s Int (decide (g < e)) * 1 * r e * f (x_t S g)) * (x_s Int (x_od S g) * 1 * x_s Int (decide (g < e)) * r g * f (x_t S e)) = _
          grind
        · rw [if_neg q, if_neg q]; rfl
      have e1 := x_smre (R := Int) 12 (fun S => if x_bt S e g = true then a S e * a S g else 0) hg
      have e2 := x_smre (R := Int) 12 (fun S => (if x_bt (x_t S g) e g = true then a (x_t S g) e * a (x_t S g) g else 0)) he
      have e3 : x_sm (2 ^ 12) (fun S => (if x_bt (x_t (x_t S e) g) e g = true then a (x_t (x_t S e) g) e * a (x_t (x_t S e) g) g else 0)) = - x_sm (2 ^ 12) (fun S => if x_bt S e g = true then a S e * a S g else 0) := by
        rw [← x_smn]
        exact x_smc _ (fun S _ => neg S)
      have e4 : x_sm (2 ^ 12) (fun S => if x_bt S e g = true then a S e * a S g else 0) = - x_sm (2 ^ 12) (fun S => if x_bt S e g = true then a S e * a S g else 0) := by
        rw [← e3]
        exact (e2.trans e1).symm
      omega
  rw [h1, h2, x_smc 12 h3]
  unfold x_dot
  rw [show x_sm 12 (fun e => r e * r e * x_nm f) = x_sm 12 (fun e => x_nm f * (r e * r e)) from x_smc _ (fun e _ => by grind), x_smm]
  grind
theorem x_nmge (f : Nat → Int) : 0 ≤ x_nm f := x_smge _ _ (fun _ _ => x_sq _)
theorem x_hadle (r f : Nat → Int) : x_nm (x_w r f) ≤ x_dot r r * x_nm f := by
  have := x_had r f
  have := x_nmge (x_i r f)
  omega
theorem x_nmW (p : Nat → Nat → Int) (B : Int) (hB : 0 ≤ B) : ∀ (n : Nat), (∀ i, i < n → x_dot (p i) (p i) ≤ B) → x_nm (x_W p n) ≤ B ^ n
  | 0, _ => by
    have : x_nm (x_W p 0) = 1 := by
      unfold x_nm
      rw [x_sm1 (k := 0) (2 ^ 12) (by decide) (fun i _ hn => ?_)]
      · show (if (0 : Nat) = 0 then (1 : Int) else 0) * (if (0 : Nat) = 0 then (1 : Int) else 0) = 1
        rw [if_pos rfl]; rfl
      · show (if i = 0 then (1 : Int) else 0) * (if i = 0 then (1 : Int) else 0) = 0
        rw [if_neg hn]; rfl
    rw [this]; show (1 : Int) ≤ B ^ 0; rw [Int.pow_zero]; decide
  | n + 1, h => by
    have ih := x_nmW p B hB n (fun i hi => h i (by omega))
    have h1 := x_hadle (p n) (x_W p n)
    rw [x_Ws]
    have h2 := h n (by omega)
    have h3 : x_dot (p n) (p n) * x_nm (x_W p n) ≤ B * B ^ n := Int.mul_le_mul h2 ih (x_nmge _) hB
    rw [Int.pow_succ, Int.mul_comm]
    omega
theorem x_dotle (r : Nat → Int) (M : Int) (h : ∀ e, e < 12 → - M ≤ r e ∧ r e ≤ M) : x_dot r r ≤ 12 * (M * M) := by
  have : ∀ n, n ≤ 12 → x_sm n (fun e => r e * r e) ≤ n * (M * M) := by
    intro n
    induction n with
    | zero => intro _; show (0 : Int) ≤ _; simp
    | succ n ih =>
      intro hn
      have h1 := ih (by omega)
      obtain ⟨a, b⟩ := h n (by omega)
      have h2 : r n * r n ≤ M * M := by
        have h3 : 0 ≤ (M - r n) * (M + r n) := Int.mul_nonneg (by omega) (by omega)
        have h4 : (M - r n) * (M + r n) = M * M - r n * r n := by grind
        omega
      show x_sm n (fun e => r e * r e) + r n * r n ≤ ((n + 1 : Nat) : Int) * (M * M)
      have h5 : ((n + 1 : Nat) : Int) * (M * M) = (n : Int) * (M * M) + M * M := by grind
      omega
  exact this 12 (Nat.le_refl _)
/-- rows of numbers from -999 to 999: their determinants have at most 142 bits -/
theorem x_small (p : Nat → Nat → Int) (n : Nat) (hn : n ≤ 12) (h : ∀ i, i < n → ∀ e, e < 12 → -999 ≤ p i e ∧ p i e ≤ 999) (S : Nat) (hS : S < 2 ^ 12) : x_W p n S < 2 ^ 142 ∧ - 2 ^ 142 < x_W p n S := by
  have h1 : x_nm (x_W p n) ≤ (12 * (999 * 999) : Int) ^ n := x_nmW p _ (by decide) n (fun i hi => x_dotle (p i) 999 (fun e he => h i hi e he))
  have h2 : x_W p n S * x_W p n S ≤ x_nm (x_W p n) := x_smle1 (2 ^ 12) (fun S => x_W p n S * x_W p n S) (fun _ _ => x_sq _) S hS
  have h3 : (12 * (999 * 999) : Int) ^ n ≤ (12 * (999 * 999) : Int) ^ 12 := (show ∀ m, m < 13 → (12 * (999 * 999) : Int) ^ m ≤ (12 * (999 * 999) : Int) ^ 12 by decide +kernel) n (by omega)
  have h4 : (12 * (999 * 999) : Int) ^ 12 < 2 ^ 142 * 2 ^ 142 := by decide +kernel
  have h5 : x_W p n S * x_W p n S < 2 ^ 142 * 2 ^ 142 := by omega
  generalize x_W p n S = x at h5
  constructor
  · refine Int.not_le.mp (fun hle => ?_)
    have : (2 : Int) ^ 142 * 2 ^ 142 ≤ x * x := Int.mul_le_mul hle hle (by decide) (by omega)
    omega
  · refine Int.not_le.mp (fun hle => ?_)
    have h6 : (2 : Int) ^ 142 ≤ - x := by omega
    have : (2 : Int) ^ 142 * 2 ^ 142 ≤ (- x) * (- x) := Int.mul_le_mul h6 h6 (by decide) (by omega)
    have h7 : (- x) * (- x) = x * x := by grind
    omega
