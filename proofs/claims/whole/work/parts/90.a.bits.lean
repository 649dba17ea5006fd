/-! PURE: ints as sets: shifts, single bits, bitCount (some rows began as the kit's laws of bits) -/
theorem b_sl : ∀ n, n < 32 → ((nI n &&& 31).toBitVec.smod 32).toNat = n := by decide +kernel
theorem b_or (a b : Nat) : nI a ||| nI b = nI (a ||| b) := by
  apply Int32.toBitVec_inj.1
  show BitVec.ofNat 32 a ||| BitVec.ofNat 32 b = BitVec.ofNat 32 (a ||| b)
  apply BitVec.eq_of_getLsbD_eq
  intro i hi
  simp [hi]
theorem b_and (a b : Nat) : nI a &&& nI b = nI (a &&& b) := by
  apply Int32.toBitVec_inj.1
  show BitVec.ofNat 32 a &&& BitVec.ofNat 32 b = BitVec.ofNat 32 (a &&& b)
  apply BitVec.eq_of_getLsbD_eq
  intro i hi
  simp [hi]
theorem b_xor (a b : Nat) : nI a ^^^ nI b = nI (a ^^^ b) := by
  apply Int32.toBitVec_inj.1
  show BitVec.ofNat 32 a ^^^ BitVec.ofNat 32 b = BitVec.ofNat 32 (a ^^^ b)
  apply BitVec.eq_of_getLsbD_eq
  intro i hi
  simp [hi]
theorem b_sh {e : Nat} (he : e < 31) : (1 : Int32) <<< (nI e &&& 31) = nI (2 ^ e) := by
  have := pk_shlN (n := 1) (nI e &&& 31) e (b_sl e (by omega)) (by rw [Nat.one_mul]; exact Nat.pow_lt_pow_right (by decide) (by omega))
  rw [Nat.one_mul] at this
  exact this
theorem b_shr {S e : Nat} (hS : S < 2 ^ 31) (he : e < 32) : nI S >>> (nI e &&& 31) = nI (S / 2 ^ e) := pk_shrN hS (nI e &&& 31) e (b_sl e he)
theorem b_tb (S e : Nat) : S / 2 ^ e % 2 = if S.testBit e = true then 1 else 0 := by
  rw [Nat.testBit_eq_decide_div_mod_eq]
  by_cases q : S / 2 ^ e % 2 = 1
  · rw [q]; simp
  · rw [if_neg (by simpa using q)]; omega
theorem b_bit {S e : Nat} (hS : S < 2 ^ 31) (he : e < 32) : (nI S >>> (nI e &&& 31)) &&& 1 = if S.testBit e = true then 1 else 0 := by
  have h1 : S / 2 ^ e ≤ S := Nat.div_le_self _ _
  rw [b_shr hS he, pk_andN (show S / 2 ^ e < 2 ^ 32 by omega) (m := 1) 1 (by decide), show 2 ^ 1 = 2 from rfl, b_tb]
  by_cases q : S.testBit e = true
  · rw [if_pos q, if_pos q]; rfl
  · rw [if_neg q, if_neg q]; rfl
theorem b_bit0 {S e : Nat} (hS : S < 2 ^ 31) (he : e < 32) : ((nI S >>> (nI e &&& 31)) &&& 1 = 0) ↔ S.testBit e = false := by
  rw [b_bit hS he]
  cases S.testBit e
  · simp
  · exact ⟨fun h => absurd h (by decide), fun h => Bool.noConfusion h⟩
theorem b_bit1 {S e : Nat} (hS : S < 2 ^ 31) (he : e < 32) : ((nI S >>> (nI e &&& 31)) &&& 1 = 1) ↔ S.testBit e = true := by
  rw [b_bit hS he]
  cases S.testBit e
  · exact ⟨fun h => absurd h (by decide), fun h => Bool.noConfusion h⟩
  · simp
theorem b_ort {S e : Nat} : S ||| 2 ^ e = if S.testBit e = true then S else x_t S e := by
  apply Nat.eq_of_testBit_eq
  intro i
  rw [Nat.testBit_or, Nat.testBit_two_pow]
  by_cases q : S.testBit e = true
  · rw [if_pos q]
    by_cases z : e = i
    · rw [← z, q]; rfl
    · rw [decide_eq_false z, Bool.or_false]
  · rw [if_neg q, x_tb]
    by_cases z : e = i
    · rw [← z, decide_eq_true rfl]
      cases hh : S.testBit e
      · rfl
      · exact absurd hh q
    · rw [decide_eq_false z, Bool.or_false, Bool.xor_false]
theorem b_ortf {S e : Nat} (h : S.testBit e = false) : S ||| 2 ^ e = x_t S e := by rw [b_ort, if_neg (by rw [h]; simp)]
theorem b_ortt {S e : Nat} (h : S.testBit e = true) : S ||| 2 ^ e = S := by rw [b_ort, if_pos h]
theorem b_not (T : Nat) (hT : T < 2 ^ 32) : nI T ^^^ (-1) = nI (2 ^ 32 - 1 - T) := by
  apply Int32.toBitVec_inj.1
  show BitVec.ofNat 32 T ^^^ BitVec.allOnes 32 = BitVec.ofNat 32 (2 ^ 32 - 1 - T)
  apply BitVec.eq_of_toNat_eq
  rw [BitVec.xor_allOnes, BitVec.toNat_not, BitVec.toNat_ofNat, BitVec.toNat_ofNat, Nat.mod_eq_of_lt hT, Nat.mod_eq_of_lt (by omega)]
theorem b_nand {S T : Nat} (hS : S < 2 ^ 31) (hT : T < 2 ^ 31) : nI S &&& (nI T ^^^ (-1)) = nI (S ^^^ (S &&& T)) := by
  apply Int32.toBitVec_inj.1
  show BitVec.ofNat 32 S &&& (BitVec.ofNat 32 T ^^^ BitVec.allOnes 32) = BitVec.ofNat 32 (S ^^^ (S &&& T))
  apply BitVec.eq_of_getLsbD_eq
  intro i hi
  simp only [BitVec.getLsbD_and, BitVec.getLsbD_xor, BitVec.getLsbD_ofNat, BitVec.getLsbD_allOnes, hi, decide_true, Bool.true_and, Nat.testBit_xor, Nat.testBit_and]
  cases S.testBit i <;> cases T.testBit i <;> rfl
/-- the first without the second -/
def x_mi (S T : Nat) : Nat := S ^^^ (S &&& T)
theorem x_mib (S T i : Nat) : (x_mi S T).testBit i = (S.testBit i && !T.testBit i) := by
  unfold x_mi
  rw [Nat.testBit_xor, Nat.testBit_and]
  cases S.testBit i <;> cases T.testBit i <;> rfl
theorem x_milt {S T n : Nat} (h : S < 2 ^ n) : x_mi S T < 2 ^ n := by
  apply Nat.lt_pow_two_of_testBit
  intro i hi
  rw [x_mib, Nat.testBit_lt_two_pow (Nat.lt_of_lt_of_le h (Nat.pow_le_pow_right (by decide) hi))]
  rfl
theorem x_mit {S e : Nat} : x_mi S (2 ^ e) = if S.testBit e = true then x_t S e else S := by
  apply Nat.eq_of_testBit_eq
  intro i
  rw [x_mib, Nat.testBit_two_pow]
  by_cases q : S.testBit e = true
  · rw [if_pos q, x_tb]
    by_cases z : e = i
    · rw [← z, decide_eq_true rfl, q]; rfl
    · rw [decide_eq_false z]; cases S.testBit i <;> rfl
  · rw [if_neg q]
    by_cases z : e = i
    · rw [← z, decide_eq_true rfl]
      cases hh : S.testBit e
      · rfl
      · exact absurd hh q
    · rw [decide_eq_false z]; cases S.testBit i <;> rfl
/-- bitCount of a set -/
def b_bcf (a0x : Int32) : Int32 :=
  let z1 := a0x - ((((a0x : Int32).toUInt32 >>> ((1 : Int32).toUInt32 &&& Int32.toUInt32 31)).toInt32) &&& 1431655765)
  let z2 := (z1 &&& 858993459) + ((((z1 : Int32).toUInt32 >>> ((2 : Int32).toUInt32 &&& Int32.toUInt32 31)).toInt32) &&& 858993459)
  let z3 := (z2 + (((z2 : Int32).toUInt32 >>> ((4 : Int32).toUInt32 &&& Int32.toUInt32 31)).toInt32)) &&& 252645135
  let z4 := z3 + (((z3 : Int32).toUInt32 >>> ((8 : Int32).toUInt32 &&& Int32.toUInt32 31)).toInt32)
  let z5 := z4 + (((z4 : Int32).toUInt32 >>> ((16 : Int32).toUInt32 &&& Int32.toUInt32 31)).toInt32)
  z5 &&& 63
set_option maxRecDepth 100000 in
theorem b_bcn : ∀ S, S < 4096 → b_bcf (nI S) = nI (x_n S) := by decide +kernel
theorem b_bc {post : Int32 → Prop} {S : Nat} (hS : S < 4096) (h : post (nI (x_n S))) : w250_wp post (nI S) := by
  unfold w250_wp
  intro z1 e1 z2 e2 z3 e3 z4 e4 z5 e5
  rw [← b_bcn S hS] at h
  unfold b_bcf at h
  rw [e5, e4, e3, e2, e1]
  exact h
