/-! PURE, the class: Minors: signed numbers in three pieces, signOf, inverse, floorMod, expand -/
theorem x_normz {a b c s : Int} (hs : s = c * 2 ^ 96 + b * 2 ^ 48 + a) : s % 2 ^ 48 = a % 2 ^ 48 ∧ s / 2 ^ 48 % 2 ^ 48 = (b + a / 2 ^ 48) % 2 ^ 48 ∧ s / 2 ^ 96 = c + (b + a / 2 ^ 48) / 2 ^ 48 := by
  have k1 := Int.mul_ediv_add_emod a (2 ^ 48)
  have k2 : 0 ≤ a % 2 ^ 48 := Int.emod_nonneg _ (by decide)
  have k3 : a % 2 ^ 48 < 2 ^ 48 := Int.emod_lt_of_pos _ (by decide)
  generalize a % 2 ^ 48 = a1 at *
  generalize a / 2 ^ 48 = a2 at *
  have k4 := Int.mul_ediv_add_emod (b + a2) (2 ^ 48)
  have k5 : 0 ≤ (b + a2) % 2 ^ 48 := Int.emod_nonneg _ (by decide)
  have k6 : (b + a2) % 2 ^ 48 < 2 ^ 48 := Int.emod_lt_of_pos _ (by decide)
  generalize (b + a2) % 2 ^ 48 = b1 at *
  generalize (b + a2) / 2 ^ 48 = b2 at *
  have e : s = ((c + b2) * 2 ^ 48 + b1) * 2 ^ 48 + a1 := by omega
  have q1 := x_i2 (x := (c + b2) * 2 ^ 48 + b1) k2 k3
  have q2 := x_i2 (x := c + b2) k5 k6
  rw [← e] at q1
  have q0 : s / 2 ^ 96 = s / 2 ^ 48 / 2 ^ 48 := by clear q1 q2 e k1 k4 hs; omega
  exact ⟨q1.1, by rw [q1.2, q2.1], by rw [q0, q1.2, q2.2]⟩
/-- a signed number in three pieces -/
def mn (z : Int) (lo mi hi : Int64) : Prop := lo = iL (z % 2 ^ 48) ∧ mi = iL (z / 2 ^ 48 % 2 ^ 48) ∧ hi = iL (z / 2 ^ 96)
theorem x_ods {S j : Nat} (hj : j + 1 < 12) : x_od S j = (x_od S (j + 1) ^^ S.testBit (j + 1)) := by
  have main : ∀ n, x_xs n (fun i => decide (j < i) && S.testBit i) = (x_xs n (fun i => decide (j + 1 < i) && S.testBit i) ^^ (decide (j + 1 < n) && S.testBit (j + 1))) := by
    intro n
    induction n with
    | zero => rfl
    | succ n ih =>
      show (x_xs n (fun i => decide (j < i) && S.testBit i) ^^ (decide (j < n) && S.testBit n)) = ((x_xs n (fun i => decide (j + 1 < i) && S.testBit i) ^^ (decide (j + 1 < n) && S.testBit n)) ^^ (decide (j + 1 < n + 1) && S.testBit (j + 1)))
      rw [ih]
      generalize x_xs n (fun i => decide (j + 1 < i) && S.testBit i) = X
      by_cases h1 : n = j + 1
      · rw [h1, decide_eq_false (show ¬ j + 1 < j + 1 by omega), decide_eq_true (show j < j + 1 by omega), decide_eq_true (show j + 1 < j + 1 + 1 by omega)]
      · by_cases h2 : n < j + 1
        · rw [decide_eq_false (show ¬ j + 1 < n by omega), decide_eq_false (show ¬ j < n by omega), decide_eq_false (show ¬ j + 1 < n + 1 by omega)]
          cases X <;> cases S.testBit (j + 1) <;> cases S.testBit n <;> rfl
        · rw [decide_eq_true (show j + 1 < n by omega), decide_eq_true (show j < n by omega), decide_eq_true (show j + 1 < n + 1 by omega)]
          cases X <;> cases S.testBit (j + 1) <;> cases S.testBit n <;> rfl
  unfold x_od
  rw [main 12, decide_eq_true hj, Bool.true_and]
theorem x_odhi {S n : Nat} (hS : S < 2 ^ n) (j : Nat) (hj : n ≤ j + 1) : x_od S j = false := by
  have main : ∀ m, x_xs m (fun i => decide (j < i) && S.testBit i) = false := by
    intro m
    induction m with
    | zero => rfl
    | succ m ih =>
      show (x_xs m (fun i => decide (j < i) && S.testBit i) ^^ (decide (j < m) && S.testBit m)) = false
      rw [ih]
      by_cases h : j < m
      · rw [Nat.testBit_lt_two_pow (Nat.lt_of_lt_of_le hS (Nat.pow_le_pow_right (by decide) (by omega))), Bool.and_false]; rfl
      · rw [decide_eq_false h]; rfl
  exact main 12
theorem x_wln2 (r a b : Nat → Int) (c : Int) (S : Nat) : x_w r (fun T => a T + c * b T) S = x_w r a S + c * x_w r b S := by
  unfold x_w
  rw [← x_smm, ← x_sma]
  refine x_smc 12 (fun e _ => ?_)
  by_cases q : S.testBit e = true
  · rw [if_pos q, if_pos q, if_pos q]; grind
  · rw [if_neg q, if_neg q, if_neg q]; grind
theorem x_smb {f : Nat → Int} {B : Nat} : ∀ n, (∀ e, e < n → (f e).natAbs ≤ B) → (x_sm n f).natAbs ≤ n * B
  | 0, _ => by show (0 : Int).natAbs ≤ 0 * B; simp
  | n + 1, h => by
    have h1 := x_smb n (fun e he => h e (by omega))
    have h2 := h n (by omega)
    have h3 := Int.natAbs_add_le (x_sm n f) (f n)
    show (x_sm n f + f n).natAbs ≤ (n + 1) * B
    rw [Nat.add_mul]; omega
theorem x_wbd {r F : Nat → Int} {S B : Nat} (hr : ∀ e, e < 12 → (r e).natAbs ≤ 999) (hF : ∀ e, e < 12 → S.testBit e = true → (F (x_t S e)).natAbs ≤ B) : (x_w r F S).natAbs ≤ 12 * (999 * B) := by
  unfold x_w
  refine x_smb 12 (fun e he => ?_)
  by_cases q : S.testBit e = true
  · rw [if_pos q, Int.natAbs_mul, Int.natAbs_mul]
    have hs : (x_s Int (x_od S e)).natAbs = 1 := by cases x_od S e <;> rfl
    rw [hs, Nat.one_mul]
    exact Nat.mul_le_mul (hr e he) (hF e he q)
  · rw [if_neg q]; simp
theorem iI_mul (a b : Int) : Int32.ofInt a * Int32.ofInt b = Int32.ofInt (a * b) := (Int32.ofInt_mul a b).symm
theorem iI_L {a : Int} (h1 : -2 ^ 31 ≤ a) (h2 : a < 2 ^ 31) : (Int32.ofInt a).toInt64 = iL a := by
  apply Int64.toInt_inj.1
  rw [Int32.toInt_toInt64, Int32.toInt_ofInt_of_le h1 h2, iL_toInt (by omega) (by omega)]
theorem iL_mul (a b : Int) : iL a * iL b = iL (a * b) := (Int64.ofInt_mul a b).symm
section CMN
variable {q_l q_m q_h l_l l_m l_h : Nat} {m_height : Int32} {m_loaded : Option Nat} {g_l g_m g_h : Nat → Int64} {g_r : Nat → Int32} {n_r n S at_ : Nat} {r : Nat → Int}
theorem c_exp20 {m_field : Int32} {Lo Mi Hi : Nat → Int} {post : Nat → Nat → Nat → Nat → Nat → Nat → Int32 → Int32 → Int32 → Option Nat → (Nat → Int64) → (Nat → Int64) → (Nat → Int64) → (Nat → Int32) → Prop} (hn : n ≤ 12) (hS : S < 2 ^ n) (hll : 2 ^ n ≤ l_l) (hlm : 2 ^ n ≤ l_m) (hlh : 2 ^ n ≤ l_h) (hl1 : l_l < 2 ^ 31) (hl2 : l_m < 2 ^ 31) (hl3 : l_h < 2 ^ 31) (hat : at_ + n ≤ n_r) (hnr : n_r < 2 ^ 31) (hr : ∀ e, e < 12 → (r e).natAbs ≤ 999) (hg : ∀ e, e < n → g_r (at_ + e) = Int32.ofInt (r e))
    (hL : ∀ e, e < n → S.testBit e = true → g_l (x_t S e) = iL (Lo (x_t S e)) ∧ g_m (x_t S e) = iL (Mi (x_t S e)) ∧ g_h (x_t S e) = iL (Hi (x_t S e)))
    (h : w241_L20 n_r post 1 (nI S) (nI at_) (iL (x_w r Lo S)) (iL (x_w r Mi S)) (iL (x_w r Hi S)) (Int32.ofInt (x_s Int (x_od S 0 ^^ S.testBit 0))) (nI 0 - 1) q_l q_m q_h l_l l_m l_h m_field (nI n) m_height m_loaded g_l g_m g_h g_r) :
    ∃ j20, w241_L20 n_r post j20 (nI S) (nI at_) 0 0 0 1 (nI n - 1) q_l q_m q_h l_l l_m l_h m_field (nI n) m_height m_loaded g_l g_m g_h g_r := by
  have hS12 : S < 2 ^ 12 := Nat.lt_of_lt_of_le hS (Nat.pow_le_pow_right (by decide) hn)
  have h2n : 2 ^ n ≤ 2 ^ 12 := Nat.pow_le_pow_right (by decide) hn
  have hz : ∀ (F : Nat → Int), x_w r F S = x_sm n (fun e => if S.testBit e = true then x_s Int (x_od S e) * r e * F (x_t S e) else 0) := by
    intro F
    unfold x_w
    have main : ∀ k, x_sm (n + k) (fun e => if S.testBit e = true then x_s Int (x_od S e) * r e * F (x_t S e) else 0) = x_sm n (fun e => if S.testBit e = true then x_s Int (x_od S e) * r e * F (x_t S e) else 0) := by
      intro k
      induction k with
      | zero => rfl
      | succ k ih =>
        show x_sm (n + k) _ + (if S.testBit (n + k) = true then _ else 0) = _
        rw [ih, if_neg]
        · exact Int.add_zero _
        · rw [Nat.testBit_lt_two_pow (Nat.lt_of_lt_of_le hS (Nat.pow_le_pow_right (by decide) (by omega)))]
          decide
    have := main (12 - n)
    rw [show n + (12 - n) = 12 by omega] at this
    exact this
  refine ⟨n + 1, ?_⟩
  have main : ∀ i, i ≤ n → w241_L20 n_r post (i + 1) (nI S) (nI at_) (iL (x_w r Lo S - x_sm i (fun e => if S.testBit e = true then x_s Int (x_od S e) * r e * Lo (x_t S e) else 0))) (iL (x_w r Mi S - x_sm i (fun e => if S.testBit e = true then x_s Int (x_od S e) * r e * Mi (x_t S e) else 0))) (iL (x_w r Hi S - x_sm i (fun e => if S.testBit e = true then x_s Int (x_od S e) * r e * Hi (x_t S e) else 0))) (Int32.ofInt (x_s Int (if i = 0 then x_od S 0 ^^ S.testBit 0 else x_od S (i - 1)))) (nI i - 1) q_l q_m q_h l_l l_m l_h m_field (nI n) m_height m_loaded g_l g_m g_h g_r := by
    intro i
    induction i with
    | zero =>
      intro _
      rw [if_pos rfl]
      show w241_L20 n_r post 1 (nI S) (nI at_) (iL (x_w r Lo S - 0)) (iL (x_w r Mi S - 0)) (iL (x_w r Hi S - 0)) _ _ _ _ _ _ _ _ _ _ _ _ _ _ _ _
      rw [Int.sub_zero, Int.sub_zero, Int.sub_zero]
      exact h
    | succ i ih =>
      intro hi
      have ih := ih (by omega)
      rw [nI_pred, if_neg (by omega), Nat.add_sub_cancel]
      refine ⟨fun z => absurd z (nI_pos (by omega)), fun _ => ⟨fun z => ?_, fun z => ?_⟩⟩
      · rw [b_bit0 (by omega) (by omega)] at z
        intro z1 e1
        rw [e1, ← Int32.sub_eq_add_neg]
        have ef : ∀ F : Nat → Int, x_sm (i + 1) (fun e => if S.testBit e = true then x_s Int (x_od S e) * r e * F (x_t S e) else 0) = x_sm i (fun e => if S.testBit e = true then x_s Int (x_od S e) * r e * F (x_t S e) else 0) := by
          intro F
          show x_sm i _ + (if S.testBit i = true then _ else 0) = _
          rw [if_neg (by rw [z]; decide)]
          exact Int.add_zero _
        rw [ef, ef, ef]
        have eo : x_od S i = (if i = 0 then x_od S 0 ^^ S.testBit 0 else x_od S (i - 1)) := by
          by_cases q : i = 0
          · rw [if_pos q, q]; rw [q] at z; rw [z, Bool.xor_false]
          · rw [if_neg q]
            obtain ⟨k, rfl⟩ : ∃ k, i = k + 1 := ⟨i - 1, by omega⟩
            rw [Nat.add_sub_cancel, x_ods (j := k) (by omega), z, Bool.xor_false]
        rw [eo]
        exact ih
      · have z' : S.testBit i = true := by
          cases hh : S.testBit i with
          | true => rfl
          | false => exact absurd ((b_bit0 (by omega) (by omega)).2 hh) z
        have ht : x_t S i < 2 ^ n := by
          unfold x_t
          exact Nat.xor_lt_two_pow hS (Nat.pow_lt_pow_right (by decide) hi)
        obtain ⟨g1, g2, g3⟩ := hL i hi z'
        have ea : nI at_ + nI i = nI (at_ + i) := (Int32.ofNat_add at_ i).symm
        have ex : nI S ^^^ ((1 : Int32) <<< (nI i &&& 31)) = nI (x_t S i) := by rw [b_sh (by omega), b_xor]; rfl
        refine ⟨by rw [ea]; exact b_in (by omega) (by omega), fun z6 e6 z7 e7 => ?_⟩
        rw [ex] at e7
        rw [ea, nI_clamp (show at_ + i < 2 ^ 31 by omega), hg i hi, iI_mul] at e6
        have hsr : (x_s Int (x_od S i) * r i).natAbs ≤ 999 := by
          rw [Int.natAbs_mul, show (x_s Int (x_od S i)).natAbs = 1 by cases x_od S i <;> rfl, Nat.one_mul]
          exact hr i (by omega)
        rw [iI_L (by omega) (by omega)] at e6
        rw [e7, nI_clamp (show x_t S i < 2 ^ 31 by omega)]
        refine ⟨b_in (by omega) (by omega), fun z8 e8 => ⟨b_in (by omega) (by omega), fun z9 e9 => ⟨b_in (by omega) (by omega), fun z10 e10 z11 e11 z1 e1 => ?_⟩⟩⟩
        rw [e6, g1, iL_mul, iL_add] at e8
        rw [e6, g2, iL_mul, iL_add] at e9
        rw [e6, g3, iL_mul, iL_add] at e10
        have ef : ∀ F : Nat → Int, x_w r F S - x_sm (i + 1) (fun e => if S.testBit e = true then x_s Int (x_od S e) * r e * F (x_t S e) else 0) + x_s Int (x_od S i) * r i * F (x_t S i) = x_w r F S - x_sm i (fun e => if S.testBit e = true then x_s Int (x_od S e) * r e * F (x_t S e) else 0) := by
          intro F
          have e : x_sm (i + 1) (fun e => if S.testBit e = true then x_s Int (x_od S e) * r e * F (x_t S e) else 0) = x_sm i (fun e => if S.testBit e = true then x_s Int (x_od S e) * r e * F (x_t S e) else 0) + x_s Int (x_od S i) * r i * F (x_t S i) := by
            show x_sm i _ + (if S.testBit i = true then _ else 0) = _
            rw [if_pos z']
          rw [e]; omega
        rw [ef] at e8 e9 e10
        have eo : -(Int32.ofInt (x_s Int (x_od S i))) = Int32.ofInt (x_s Int (if i = 0 then x_od S 0 ^^ S.testBit 0 else x_od S (i - 1))) := by
          have e0 : ∀ b : Bool, -(Int32.ofInt (x_s Int b)) = Int32.ofInt (x_s Int (b ^^ true)) := by decide
          rw [e0]
          by_cases q : i = 0
          · rw [if_pos q, q]; rw [q] at z'; rw [z']
          · rw [if_neg q]
            obtain ⟨k, rfl⟩ : ∃ k, i = k + 1 := ⟨i - 1, by omega⟩
            rw [Nat.add_sub_cancel, x_ods (j := k) (by omega), z']
        rw [e1, ← Int32.sub_eq_add_neg, e8, e9, e10, e11, eo]
        exact ih
  have h0 := main n (Nat.le_refl n)
  rw [hz Lo, hz Mi, hz Hi, Int.sub_self, Int.sub_self, Int.sub_self] at h0
  have e1 : Int32.ofInt (x_s Int (if n = 0 then x_od S 0 ^^ S.testBit 0 else x_od S (n - 1))) = 1 := by
    by_cases q : n = 0
    · rw [if_pos q]
      rw [q] at hS
      have : S = 0 := by omega
      rw [this]; decide
    · rw [if_neg q, x_odhi hS (n - 1) (by omega)]; decide
  rw [e1] at h0
  exact h0
theorem c_expand0 {Z : Nat → Int} {post : Nat → Nat → Nat → Nat → Nat → Nat → Int32 → Int32 → Int32 → Option Nat → (Nat → Int64) → (Nat → Int64) → (Nat → Int64) → (Nat → Int32) → Prop} (hn : n ≤ 12) (hS : S < 2 ^ n) (hll : 2 ^ n ≤ l_l) (hlm : 2 ^ n ≤ l_m) (hlh : 2 ^ n ≤ l_h) (hl1 : l_l < 2 ^ 31) (hl2 : l_m < 2 ^ 31) (hl3 : l_h < 2 ^ 31) (hat : at_ + n ≤ n_r) (hnr : n_r < 2 ^ 31) (hr : ∀ e, e < 12 → (r e).natAbs ≤ 999) (hg : ∀ e, e < n → g_r (at_ + e) = Int32.ofInt (r e))
    (hL : ∀ e, e < n → S.testBit e = true → mn (Z (x_t S e)) (g_l (x_t S e)) (g_m (x_t S e)) (g_h (x_t S e))) (hZ : ∀ T, (Z T).natAbs < 2 ^ 143)
    (h : post q_l q_m q_h l_l l_m l_h 0 (nI n) m_height m_loaded (vp_updL g_l S (iL (x_w r Z S % 2 ^ 48))) (vp_updL g_m S (iL (x_w r Z S / 2 ^ 48 % 2 ^ 48))) (vp_updL g_h S (iL (x_w r Z S / 2 ^ 96))) g_r) :
    w241_wp n_r post (nI S) (nI at_) q_l q_m q_h l_l l_m l_h 0 (nI n) m_height m_loaded g_l g_m g_h g_r := by
  unfold w241_wp
  intro z12 e12
  rw [e12]
  have h2n : 2 ^ n ≤ 2 ^ 12 := Nat.pow_le_pow_right (by decide) hn
  refine c_exp20 (Lo := fun T => Z T % 2 ^ 48) (Mi := fun T => Z T / 2 ^ 48 % 2 ^ 48) (Hi := fun T => Z T / 2 ^ 96) hn hS hll hlm hlh hl1 hl2 hl3 hat hnr hr hg hL ?_
  have b1 := x_wbd (F := fun T => Z T % 2 ^ 48) (S := S) (B := 2 ^ 48) hr (fun e he _ => by show (Z (x_t S e) % 2 ^ 48).natAbs ≤ 2 ^ 48; omega)
  have b2 := x_wbd (F := fun T => Z T / 2 ^ 48 % 2 ^ 48) (S := S) (B := 2 ^ 48) hr (fun e he _ => by show (Z (x_t S e) / 2 ^ 48 % 2 ^ 48).natAbs ≤ 2 ^ 48; omega)
  have b3 := x_wbd (F := fun T => Z T / 2 ^ 96) (S := S) (B := 2 ^ 48) hr (fun e he _ => by show (Z (x_t S e) / 2 ^ 96).natAbs ≤ 2 ^ 48; have := hZ (x_t S e); omega)
  have hw : x_w r Z S = x_w r (fun T => Z T / 2 ^ 96) S * 2 ^ 96 + x_w r (fun T => Z T / 2 ^ 48 % 2 ^ 48) S * 2 ^ 48 + x_w r (fun T => Z T % 2 ^ 48) S := by
    have e : Z = fun T => (Z T % 2 ^ 48 + 2 ^ 48 * (Z T / 2 ^ 48 % 2 ^ 48)) + 2 ^ 96 * (Z T / 2 ^ 96) := funext (fun T => by omega)
    have e2 : x_w r Z S = x_w r (fun T => (Z T % 2 ^ 48 + 2 ^ 48 * (Z T / 2 ^ 48 % 2 ^ 48)) + 2 ^ 96 * (Z T / 2 ^ 96)) S := by rw [← e]
    rw [e2, x_wln2 r (fun T => Z T % 2 ^ 48 + 2 ^ 48 * (Z T / 2 ^ 48 % 2 ^ 48)) (fun T => Z T / 2 ^ 96) (2 ^ 96) S, x_wln2 r (fun T => Z T % 2 ^ 48) (fun T => Z T / 2 ^ 48 % 2 ^ 48) (2 ^ 48) S]
    omega
  have hz := x_normz hw
  rw [hz.1, hz.2.1, hz.2.2] at h
  generalize x_w r (fun T => Z T % 2 ^ 48) S = A at *
  generalize x_w r (fun T => Z T / 2 ^ 48 % 2 ^ 48) S = B at *
  generalize x_w r (fun T => Z T / 2 ^ 96) S = C at *
  refine ⟨fun _ => ⟨fun _ z2 e2 z3 e3 => ?_, fun z => absurd rfl z⟩, fun z => absurd (by decide) z⟩
  clear hw hz hL hZ
  rw [iL_shr (k := 48) (by decide) (by omega) (by omega), iL_add] at e2
  rw [iL_low] at e3
  refine ⟨b_in (by omega) (by omega), fun z4 e4 => ⟨b_in (by omega) (by omega), fun z5 e5 => ⟨b_in (by omega) (by omega), ?_⟩⟩⟩
  rw [e2, iL_low] at e4
  rw [e2, iL_shr (k := 48) (by decide) (by omega) (by omega), iL_add] at e5
  rw [nI_clamp (show S < 2 ^ 31 by omega), e3, e4, e5]
  exact h
end CMN
