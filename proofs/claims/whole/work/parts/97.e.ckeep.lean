/-! PURE: kept elements as they rise; interleavesOdd -/
theorem b_oe (S : Nat) : (nI (x_n (S &&& 2730)) &&& 1 = 0) ↔ x_oe S = false := by
  have e : x_n (S &&& 2730) = x_cn 12 (fun i => S.testBit i && decide (i % 2 = 1)) := by
    refine x_cnc 12 (fun i hi => ?_)
    rw [Nat.testBit_and]
    have : ∀ i, i < 12 → (2730 : Nat).testBit i = decide (i % 2 = 1) := by decide
    rw [this i hi]
  have hb := x_nle (S &&& 2730)
  rw [b_odd _ (by omega), e]
  unfold x_oe
  rw [x_par]
  cases x_xs 12 (fun i => S.testBit i && decide (i % 2 = 1)) <;> simp
/-- the kept elements below l, as they rise -/
theorem x_enum (K : Nat) : ∀ l, ∃ k : Nat → Nat, (∀ i j, i < j → j < x_cn l (fun e => K.testBit e) → k i < k j) ∧ (∀ i, i < x_cn l (fun e => K.testBit e) → k i < l ∧ K.testBit (k i) = true) ∧ (∀ e, e < l → K.testBit e = true → x_cn e (fun e => K.testBit e) < x_cn l (fun e => K.testBit e) ∧ k (x_cn e (fun e => K.testBit e)) = e) := by
  intro l
  induction l with
  | zero => exact ⟨fun _ => 0, fun i j _ h => absurd h (Nat.not_lt_zero j), fun i h => absurd h (Nat.not_lt_zero i), fun e h => absurd h (Nat.not_lt_zero e)⟩
  | succ l ih =>
    obtain ⟨k, h1, h2, h3⟩ := ih
    by_cases w : K.testBit l = true
    · have e1 : x_cn (l + 1) (fun e => K.testBit e) = x_cn l (fun e => K.testBit e) + 1 := by
        show x_cn l (fun e => K.testBit e) + (if K.testBit l = true then 1 else 0) = _
        rw [if_pos w]
      rw [e1]
      generalize hm : x_cn l (fun e => K.testBit e) = m at *
      refine ⟨fun i => if i = m then l else k i, fun i j hij hj => ?_, fun i hi => ?_, fun e he hK => ?_⟩
      · show (if i = m then l else k i) < if j = m then l else k j
        rw [if_neg (by omega)]
        by_cases w2 : j = m
        · rw [if_pos w2]; exact (h2 i (by omega)).1
        · rw [if_neg w2]; exact h1 i j hij (by omega)
      · show (if i = m then l else k i) < l + 1 ∧ K.testBit (if i = m then l else k i) = true
        by_cases w2 : i = m
        · rw [if_pos w2]; exact ⟨Nat.lt_succ_self _, w⟩
        · rw [if_neg w2]
          have := h2 i (by omega)
          exact ⟨by omega, this.2⟩
      · show x_cn e (fun e => K.testBit e) < m + 1 ∧ (if x_cn e (fun e => K.testBit e) = m then l else k (x_cn e (fun e => K.testBit e))) = e
        by_cases w2 : e = l
        · rw [w2, hm, if_pos rfl]; exact ⟨Nat.lt_succ_self _, rfl⟩
        · have := h3 e (by omega) hK
          rw [if_neg (by omega)]
          exact ⟨by omega, this.2⟩
    · have e1 : x_cn (l + 1) (fun e => K.testBit e) = x_cn l (fun e => K.testBit e) := by
        show x_cn l (fun e => K.testBit e) + (if K.testBit l = true then 1 else 0) = _
        rw [if_neg w]; rfl
      rw [e1]
      refine ⟨k, h1, fun i hi => ⟨Nat.lt_succ_of_lt (h2 i hi).1, (h2 i hi).2⟩, fun e he hK => ?_⟩
      have : e ≠ l := fun w2 => w (w2 ▸ hK)
      exact h3 e (by omega) hK
/-- k names the elements of K, which are m -/
def x_kp (K m : Nat) (k : Nat → Nat) : Prop := x_up m k ∧ (∀ i, i < m → K.testBit (k i) = true) ∧ (∀ e, e < 12 → K.testBit e = true → x_cn e (fun i => K.testBit i) < m ∧ k (x_cn e (fun i => K.testBit i)) = e)
theorem x_kpE (K : Nat) : ∃ k, x_kp K (x_n K) k := by
  obtain ⟨k, h1, h2, h3⟩ := x_enum K 12
  exact ⟨k, ⟨h1, fun j hj => (h2 j hj).1⟩, fun i hi => (h2 i hi).2, h3⟩
theorem x_kpc {K m : Nat} {k : Nat → Nat} (h : x_kp K m k) {i : Nat} (hi : i < m) : x_cn (k i) (fun i => K.testBit i) = i := by
  have := h.2.2 (k i) (h.1.2 i hi) (h.2.1 i hi)
  exact x_upi h.1 this.1 hi this.2
/-- the next subset of K -/
def x_pd : Nat → Nat → Nat → Nat
  | 0, _, _ => 0
  | l + 1, K, S => if K % 2 = 1 then 2 * x_pd l (K / 2) (S / 2) + S % 2 else 2 * x_pd l (K / 2) S
theorem x_pdl : ∀ (l K S : Nat), K < 2 ^ l → x_pd l K S ≤ K
  | 0, K, S, _ => Nat.zero_le _
  | l + 1, K, S, h => by
    have h2 : K / 2 < 2 ^ l := by rw [Nat.pow_succ] at h; omega
    have i1 := x_pdl l (K / 2) (S / 2) h2
    have i2 := x_pdl l (K / 2) S h2
    unfold x_pd
    split <;> omega
theorem b_and2 (a b : Nat) : (2 * a) &&& (2 * b) = 2 * (a &&& b) := by
  have := Nat.shiftLeft_and_distrib (a := a) (b := b) (i := 1)
  simp only [Nat.shiftLeft_eq, Nat.pow_one] at this
  rw [Nat.mul_comm 2 a, Nat.mul_comm 2 b, ← this, Nat.mul_comm]
theorem b_andh (a b c d : Nat) (hc : c < 2) (hd : d < 2) : (2 * a + c) &&& (2 * b + d) = 2 * (a &&& b) + (c &&& d) := by
  apply Nat.eq_of_testBit_eq
  intro i
  cases i with
  | zero =>
    rw [Nat.testBit_and, Nat.testBit_zero, Nat.testBit_zero, Nat.testBit_zero]
    have e1 : (2 * a + c) % 2 = c := by omega
    have e2 : (2 * b + d) % 2 = d := by omega
    have e4 : (2 * (a &&& b) + (c &&& d)) % 2 = (c &&& d) % 2 := by omega
    rw [e1, e2, e4]
    have : c = 0 ∨ c = 1 := by omega
    have : d = 0 ∨ d = 1 := by omega
    rcases ‹c = 0 ∨ c = 1› with q | q <;> rcases ‹d = 0 ∨ d = 1› with q' | q' <;> rw [q, q'] <;> rfl
  | succ i =>
    rw [Nat.testBit_and, Nat.testBit_succ, Nat.testBit_succ, Nat.testBit_succ]
    have e1 : (2 * a + c) / 2 = a := by omega
    have e2 : (2 * b + d) / 2 = b := by omega
    have h3 : c &&& d < 2 := by
      have := Nat.and_le_left (n := c) (m := d)
      omega
    have e4 : (2 * (a &&& b) + (c &&& d)) / 2 = a &&& b := by omega
    rw [e1, e2, e4, Nat.testBit_and]
theorem x_pdk : ∀ (l K S : Nat), K < 2 ^ l → (x_pd l K S + (2 ^ l - 1 - K)) &&& K = x_pd l K S
  | 0, K, S, h => by
    have : K = 0 := by rw [Nat.pow_zero] at h; omega
    rw [this, Nat.and_zero]; rfl
  | l + 1, K, S, h => by
    have hp : 2 ^ (l + 1) = 2 * 2 ^ l := by rw [Nat.pow_succ, Nat.mul_comm]
    have h2 : K / 2 < 2 ^ l := by omega
    by_cases w : K % 2 = 1
    · have ih := x_pdk l (K / 2) (S / 2) h2
      have e : x_pd (l + 1) K S = 2 * x_pd l (K / 2) (S / 2) + S % 2 := by
        show (if K % 2 = 1 then 2 * x_pd l (K / 2) (S / 2) + S % 2 else _) = _
        rw [if_pos w]
      rw [e]
      generalize x_pd l (K / 2) (S / 2) = x at *
      have e1 : 2 * x + S % 2 + (2 ^ (l + 1) - 1 - K) = 2 * (x + (2 ^ l - 1 - K / 2)) + S % 2 := by omega
      have e2 : K = 2 * (K / 2) + 1 := by omega
      rw [e1]
      generalize hz : x + (2 ^ l - 1 - K / 2) = z at *
      rw [e2, b_andh _ _ _ _ (by omega) (by omega), show (2 * (K / 2) + 1) / 2 = K / 2 by omega] at *
      rw [ih]
      have : S % 2 = 0 ∨ S % 2 = 1 := by omega
      rcases this with q | q <;> rw [q] <;> rfl
    · have ih := x_pdk l (K / 2) S h2
      have e : x_pd (l + 1) K S = 2 * x_pd l (K / 2) S := by
        show (if K % 2 = 1 then _ else 2 * x_pd l (K / 2) S) = _
        rw [if_neg w]
      rw [e]
      generalize x_pd l (K / 2) S = x at *
      have e1 : 2 * x + (2 ^ (l + 1) - 1 - K) = 2 * (x + (2 ^ l - 1 - K / 2)) + 1 := by omega
      have e2 : K = 2 * (K / 2) + 0 := by omega
      rw [e1]
      generalize hz : x + (2 ^ l - 1 - K / 2) = z at *
      generalize hk : K / 2 = k at *
      rw [e2, b_andh _ _ _ _ (by omega) (by omega), ih]
      rfl
theorem x_pdn : ∀ (l K S : Nat), K < 2 ^ l → (x_pd l K S + (2 ^ l - K)) &&& K = x_pd l K (S + 1)
  | 0, K, S, h => by
    have : K = 0 := by rw [Nat.pow_zero] at h; omega
    rw [this, Nat.and_zero]; rfl
  | l + 1, K, S, h => by
    have hp : 2 ^ (l + 1) = 2 * 2 ^ l := by rw [Nat.pow_succ, Nat.mul_comm]
    have h2 : K / 2 < 2 ^ l := by omega
    by_cases w : K % 2 = 1
    · have e : ∀ S, x_pd (l + 1) K S = 2 * x_pd l (K / 2) (S / 2) + S % 2 := by
        intro S
        show (if K % 2 = 1 then 2 * x_pd l (K / 2) (S / 2) + S % 2 else _) = _
        rw [if_pos w]
      rw [e, e]
      by_cases w2 : S % 2 = 1
      · have ih := x_pdn l (K / 2) (S / 2) h2
        rw [show (S + 1) / 2 = S / 2 + 1 by omega, show (S + 1) % 2 = 0 by omega, ← ih, w2]
        generalize x_pd l (K / 2) (S / 2) = x at *
        generalize hk : K / 2 = k at *
        have e1 : 2 * x + 1 + (2 ^ (l + 1) - K) = 2 * (x + (2 ^ l - k)) + 0 := by omega
        rw [e1]
        generalize x + (2 ^ l - k) = z
        rw [show K = 2 * k + 1 by omega, b_andh _ _ _ _ (by omega) (by omega)]
        rfl
      · have ih := x_pdk l (K / 2) (S / 2) h2
        rw [show (S + 1) / 2 = S / 2 by omega, show (S + 1) % 2 = 1 by omega, show S % 2 = 0 by omega]
        generalize x_pd l (K / 2) (S / 2) = x at *
        generalize hk : K / 2 = k at *
        have e1 : 2 * x + 0 + (2 ^ (l + 1) - K) = 2 * (x + (2 ^ l - 1 - k)) + 1 := by omega
        rw [e1]
        generalize x + (2 ^ l - 1 - k) = z at *
        rw [show K = 2 * k + 1 by omega, b_andh _ _ _ _ (by omega) (by omega), ih]
        rfl
    · have e : ∀ S, x_pd (l + 1) K S = 2 * x_pd l (K / 2) S := by
        intro S
        show (if K % 2 = 1 then _ else 2 * x_pd l (K / 2) S) = _
        rw [if_neg w]
      have ih := x_pdn l (K / 2) S h2
      rw [e, e, ← ih]
      generalize x_pd l (K / 2) S = x at *
      generalize hk : K / 2 = k at *
      have e1 : 2 * x + (2 ^ (l + 1) - K) = 2 * (x + (2 ^ l - k)) + 0 := by omega
      rw [e1]
      generalize x + (2 ^ l - k) = z
      rw [show K = 2 * k + 0 by omega, b_andh _ _ _ _ (by omega) (by omega)]
      rfl
theorem x_cns (f : Nat → Bool) : ∀ n, x_cn (n + 1) f = (if f 0 = true then 1 else 0) + x_cn n (fun i => f (i + 1))
  | 0 => by show 0 + _ = _ + 0; rw [Nat.zero_add, Nat.add_zero]
  | n + 1 => by
    show x_cn (n + 1) f + _ = _ + (x_cn n (fun i => f (i + 1)) + _)
    rw [x_cns f n, Nat.add_assoc]
theorem x_pdb : ∀ (l K S j : Nat), j < l → (x_pd l K S).testBit j = (K.testBit j && S.testBit (x_cn j (fun i => K.testBit i)))
  | 0, K, S, j, h => absurd h (Nat.not_lt_zero j)
  | l + 1, K, S, j, h => by
    by_cases w : K % 2 = 1
    · have e : x_pd (l + 1) K S = 2 * x_pd l (K / 2) (S / 2) + S % 2 := by
        show (if K % 2 = 1 then 2 * x_pd l (K / 2) (S / 2) + S % 2 else _) = _
        rw [if_pos w]
      rw [e]
      cases j with
      | zero =>
        rw [Nat.testBit_zero, Nat.testBit_zero, w]
        show _ = (true && S.testBit 0)
        rw [Bool.true_and, Nat.testBit_zero, show (2 * x_pd l (K / 2) (S / 2) + S % 2) % 2 = S % 2 by omega]
      | succ j =>
        rw [Nat.testBit_succ, show (2 * x_pd l (K / 2) (S / 2) + S % 2) / 2 = x_pd l (K / 2) (S / 2) by omega, x_pdb l _ _ j (by omega), x_cns, if_pos (by rw [Nat.testBit_zero, w]; rfl), Nat.testBit_succ, Nat.add_comm 1, Nat.testBit_succ]
        simp only [Nat.testBit_succ]
    · have e : x_pd (l + 1) K S = 2 * x_pd l (K / 2) S := by
        show (if K % 2 = 1 then _ else 2 * x_pd l (K / 2) S) = _
        rw [if_neg w]
      rw [e]
      cases j with
      | zero =>
        rw [Nat.testBit_zero, Nat.testBit_zero, show K % 2 = 0 by omega, show 2 * x_pd l (K / 2) S % 2 = 0 by omega]
        rfl
      | succ j =>
        rw [Nat.testBit_succ, show (2 * x_pd l (K / 2) S) / 2 = x_pd l (K / 2) S by omega, x_pdb l _ _ j (by omega), x_cns, if_neg (by rw [Nat.testBit_zero, show K % 2 = 0 by omega]; decide), Nat.testBit_succ, Nat.zero_add]
        simp only [Nat.testBit_succ]
theorem x_pds {K m : Nat} {k : Nat → Nat} (hK : K < 2 ^ 12) (h : x_kp K m k) (S : Nat) : x_pd 12 K S = x_sd m k S := by
  refine x_ext (Nat.lt_of_le_of_lt (x_pdl 12 K S hK) hK) (x_sdl m h.1) (fun i hi => ?_)
  rw [x_pdb 12 K S i hi]
  by_cases w : K.testBit i = true
  · obtain ⟨h1, h2⟩ := h.2.2 i hi w
    have := x_sdb (S := S) m h.1 _ h1
    rw [h2] at this
    rw [this, w]; rfl
  · rw [x_sdo m (fun j hj e => w (by rw [← e]; exact h.2.1 j hj))]
    cases hh : K.testBit i
    · rfl
    · exact absurd hh w
theorem x_sdn {K m : Nat} {k : Nat → Nat} (hK : K < 2 ^ 12) (h : x_kp K m k) (S : Nat) : (x_sd m k S + (2 ^ 12 - K)) &&& K = x_sd m k (S + 1) := by
  rw [← x_pds hK h, ← x_pds hK h]
  exact x_pdn 12 K S hK
theorem x_sd0 {m : Nat} {k : Nat → Nat} (h : x_up m k) : x_sd m k 0 = 0 := by
  refine x_ext (x_sdl m h) (by decide) (fun i hi => ?_)
  rw [Nat.zero_testBit]
  by_cases w : ∃ j, j < m ∧ k j = i
  · obtain ⟨j, hj, e⟩ := w
    rw [← e, x_sdb m h j hj, Nat.zero_testBit]
  · exact x_sdo m (fun j hj e => w ⟨j, hj, e⟩)
theorem b_nx {K m : Nat} {k : Nat → Nat} (hK : K < 2 ^ 12) (h : x_kp K m k) (S : Nat) : (nI (x_sd m k S) - nI K) &&& nI K = nI (x_sd m k (S + 1)) := by
  have hs := x_sdl (S := S) m h.1
  rw [← x_sdn hK h S]
  generalize x_sd m k S = o at *
  by_cases w : K ≤ o
  · have e : nI o - nI K = nI (o - K) := by
      have := nI_add (o - K) K
      rw [show o - K + K = o by omega] at this
      rw [← this]
      exact Int32.add_sub_cancel _ _
    rw [e, b_and, show o + (2 ^ 12 - K) = 2 ^ 12 + (o - K) by omega]
    congr 1
    apply Nat.eq_of_testBit_eq
    intro i
    rw [Nat.testBit_and, Nat.testBit_and]
    by_cases q : i < 12
    · rw [Nat.testBit_two_pow_add_gt q]
    · rw [Nat.testBit_lt_two_pow (x := K) (Nat.lt_of_lt_of_le hK (Nat.pow_le_pow_right (by decide) (by omega))), Bool.and_false, Bool.and_false]
  · have e : nI o - nI K = nI (o + (2 ^ 32 - K)) := by
      have h1 : nI (o + (2 ^ 32 - K)) + nI K = nI o := by
        rw [nI_add, show o + (2 ^ 32 - K) + K = o + 2 ^ 32 by omega]
        apply Int32.toBitVec_inj.1
        show BitVec.ofNat 32 (o + 2 ^ 32) = BitVec.ofNat 32 o
        apply BitVec.eq_of_toNat_eq
        rw [BitVec.toNat_ofNat, BitVec.toNat_ofNat, Nat.add_mod_right]
      rw [← h1]
      exact Int32.add_sub_cancel _ _
    rw [e, b_and]
    congr 1
    apply Nat.eq_of_testBit_eq
    intro i
    rw [Nat.testBit_and, Nat.testBit_and]
    by_cases q : i < 12
    · congr 1
      rw [show o + (2 ^ 32 - K) = o + (2 ^ 12 - K) + 2 ^ 12 * (2 ^ 20 - 1) by omega]
      have e1 := Nat.testBit_mod_two_pow (o + (2 ^ 12 - K) + 2 ^ 12 * (2 ^ 20 - 1)) 12 i
      have e2 := Nat.testBit_mod_two_pow (o + (2 ^ 12 - K)) 12 i
      rw [Nat.add_mul_mod_self_left] at e1
      rw [e1, decide_eq_true q, Bool.true_and, Bool.true_and] at e2
      exact e2
    · rw [Nat.testBit_lt_two_pow (x := K) (Nat.lt_of_lt_of_le hK (Nat.pow_le_pow_right (by decide) (by omega))), Bool.and_false, Bool.and_false]
