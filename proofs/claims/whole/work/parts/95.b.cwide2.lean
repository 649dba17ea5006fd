/-! PURE, the class: Wide: compareWith, subtract, takeAmount, takeShortCommon -/
def iL (z : Int) : Int64 := Int64.ofInt z
theorem iL_n (n : Nat) : nL n = iL (n : Int) := Int64.ofInt_eq_ofNat.symm
theorem iL_add (a b : Int) : iL a + iL b = iL (a + b) := (Int64.ofInt_add a b).symm
theorem iL_neg (a : Int) : -iL a = iL (-a) := (Int64.ofInt_neg a).symm
theorem iL_sub (a b : Int) : iL a - iL b = iL (a - b) := (Int64.ofInt_sub a b).symm
theorem iL_toInt {z : Int} (h1 : -2 ^ 63 ≤ z) (h2 : z < 2 ^ 63) : (iL z).toInt = z := Int64.toInt_ofInt_of_le h1 h2
theorem iL_shr {z : Int} {k : Nat} {s : Int64} (hs : (s.toBitVec.smod 64).toNat = k) (h1 : -2 ^ 63 ≤ z) (h2 : z < 2 ^ 63) : iL z >>> s = iL (z / 2 ^ k) := by
  have hp : (0 : Int) < 2 ^ k := Int.pow_pos (by decide)
  have h3 : -2 ^ 63 ≤ z / 2 ^ k := by
    by_cases q : 0 ≤ z
    · have := Int.ediv_nonneg q (Int.le_of_lt hp); omega
    · have : z ≤ z / 2 ^ k := by
        rw [Int.le_ediv_iff_mul_le hp]
        have e : z * 2 ^ k ≤ z * 1 := Int.mul_le_mul_of_nonpos_left (by omega) (by omega)
        omega
      omega
  have h4 : z / 2 ^ k < 2 ^ 63 := by
    by_cases q : 0 ≤ z
    · have := Int.ediv_le_self (2 ^ k) q; omega
    · have := Int.ediv_neg_of_neg_of_pos (show z < 0 by omega) hp; omega
  apply Int64.toInt_inj.1
  rw [iL_toInt h3 h4]
  show ((iL z).toBitVec.sshiftRight' (s.toBitVec.smod 64)).toInt = _
  rw [BitVec.toInt_sshiftRight', hs, show (iL z).toBitVec.toInt = (iL z).toInt from rfl, iL_toInt h1 h2, Int.shiftRight_eq_div_pow]
  rfl
theorem iL_nat (z : Int) : iL z = nL (z % 2 ^ 64).toNat := by
  apply Int64.toBitVec_inj.1
  show BitVec.ofInt 64 z = BitVec.ofNat 64 (z % 2 ^ 64).toNat
  apply BitVec.eq_of_toNat_eq
  rw [BitVec.toNat_ofInt, BitVec.toNat_ofNat]
  omega
theorem iL_low (z : Int) : iL z &&& 281474976710655 = iL (z % 2 ^ 48) := by
  rw [iL_nat z, show (281474976710655 : Int64) = nL (2 ^ 48 - 1) from rfl, nL_low _ 48 (by decide), iL_n]
  congr 1; omega
theorem x_i2 {x q : Int} (h0 : 0 ≤ q) (h : q < 2 ^ 48) : (x * 2 ^ 48 + q) % 2 ^ 48 = q ∧ (x * 2 ^ 48 + q) / 2 ^ 48 = x := by omega
theorem x_norm {a b c s : Int} (hs : s = c * 2 ^ 96 + b * 2 ^ 48 + a) (h0 : 0 ≤ s) (h1 : s < 2 ^ 158) : wd s.toNat (iL (a % 2 ^ 48)) (iL ((b + a / 2 ^ 48) % 2 ^ 48)) (iL (c + (b + a / 2 ^ 48) / 2 ^ 48)) := by
  have k1 := Int.mul_ediv_add_emod a (2 ^ 48)
  have k2 : 0 ≤ a % 2 ^ 48 := Int.emod_nonneg _ (by decide)
  have k3 : a % 2 ^ 48 < 2 ^ 48 := Int.emod_lt_of_pos _ (by decide)
  generalize a % 2 ^ 48 = a1 at *
  generalize a / 2 ^ 48 = a2 at *
  have k4 := Int.mul_ediv_add_emod (b + a2) (2 ^ 48)
  have k5 : 0 ≤ (b + a2) % 2 ^ 48 := Int.emod_nonneg _ (by decide)
  have k6 : (b + a2) % 2 ^ 48 < 2 ^ 48 := Int.emod_lt_of_pos _ (by decide)
  generalize (b + a2) % 2 ^ 48 = b1 at *
  generalize (b + a2) / 2 ^ 48 = b2 at *
  have e : s = ((c + b2) * 2 ^ 48 + b1) * 2 ^ 48 + a1 := by omega
  have q1 := x_i2 (x := (c + b2) * 2 ^ 48 + b1) k2 k3
  have q2 := x_i2 (x := c + b2) k5 k6
  rw [← e] at q1
  have q3 : s / 2 ^ 96 = c + b2 := by 
    have q0 : s / 2 ^ 96 = s / 2 ^ 48 / 2 ^ 48 := by clear q1 q2 e k1 k4 hs; omega
    rw [q0, q1.2, q2.2]
  have q4 : s / 2 ^ 48 % 2 ^ 48 = b1 := by rw [q1.2, q2.1]
  obtain ⟨n, rfl⟩ := Int.eq_ofNat_of_zero_le h0
  rw [Int.toNat_natCast]
  refine ⟨?_, ?_, ?_, by omega⟩
  · rw [iL_n, ← q1.1]; congr 1
  · rw [iL_n, ← q4]; congr 1
  · rw [iL_n, ← q3]; congr 1
def x_cmp (a b : Nat) : Int32 := if a < b then -1 else if a = b then 0 else 1
theorem nL_leq {a b : Nat} (ha : a < 2 ^ 63) (hb : b < 2 ^ 63) : (nL a ≤ nL b) ↔ a ≤ b := by
  rw [Int64.le_iff_toInt_le, nL_toInt ha, nL_toInt hb]; omega
section CWE
variable {lo mi hi lo1 mi1 hi1 : Int64} {v v1 : Nat}
theorem b_cmpL {post : Int32 → Prop} {a b : Nat} (ha : a < 2 ^ 63) (hb : b < 2 ^ 63) (h : post (x_cmp a b)) : w326_wp post (nL a) (nL b) := by
  unfold w326_wp w326_L21
  rw [lg_cmp_ge, nL_leq hb ha, nL_eq ha hb]
  unfold x_cmp at h
  by_cases z : a < b
  · rw [if_pos z] at h
    exact ⟨fun k => absurd k (by omega), fun _ => h⟩
  · rw [if_neg z] at h
    by_cases z2 : a = b
    · rw [if_pos z2] at h
      exact ⟨fun _ => ⟨fun k => absurd z2 k, fun _ => h⟩, fun k => absurd (by omega) k⟩
    · rw [if_neg z2] at h
      exact ⟨fun _ => ⟨fun _ => h, fun k => absurd k z2⟩, fun k => absurd (by omega) k⟩
theorem x_cmpw (v v1 : Nat) : x_cmp v v1 = if v / 2 ^ 96 = v1 / 2 ^ 96 then (if v / 2 ^ 48 % 2 ^ 48 = v1 / 2 ^ 48 % 2 ^ 48 then x_cmp (v % 2 ^ 48) (v1 % 2 ^ 48) else x_cmp (v / 2 ^ 48 % 2 ^ 48) (v1 / 2 ^ 48 % 2 ^ 48)) else x_cmp (v / 2 ^ 96) (v1 / 2 ^ 96) := by
  unfold x_cmp
  by_cases z1 : v < v1
  · rw [if_pos z1]
    by_cases z2 : v / 2 ^ 96 = v1 / 2 ^ 96
    · rw [if_pos z2]
      by_cases z3 : v / 2 ^ 48 % 2 ^ 48 = v1 / 2 ^ 48 % 2 ^ 48
      · rw [if_pos z3, if_pos (by omega)]
      · rw [if_neg z3, if_pos (by omega)]
    · rw [if_neg z2, if_pos (by omega)]
  · rw [if_neg z1]
    by_cases z0 : v = v1
    · rw [z0, if_pos rfl, if_pos rfl, if_pos rfl, if_neg (by omega), if_pos rfl]
    · rw [if_neg z0]
      by_cases z2 : v / 2 ^ 96 = v1 / 2 ^ 96
      · rw [if_pos z2]
        by_cases z3 : v / 2 ^ 48 % 2 ^ 48 = v1 / 2 ^ 48 % 2 ^ 48
        · rw [if_pos z3, if_neg (by omega), if_neg (by omega)]
        · rw [if_neg z3, if_neg (by omega), if_neg z3]
      · rw [if_neg z2, if_neg (by omega), if_neg z2]
theorem c_wcmp {post : Int32 → Int64 → Int64 → Int64 → Int64 → Int64 → Int64 → Prop} (hw : wd v lo mi hi) (hw1 : wd v1 lo1 mi1 hi1) (h : post (x_cmp v v1) lo mi hi lo1 mi1 hi1) : w325_wp post lo mi hi lo1 mi1 hi1 := by
  obtain ⟨a, b, c, d⟩ := hw
  obtain ⟨a1, b1, c1, d1⟩ := hw1
  unfold w325_wp w325_L61
  have l1 : v / 2 ^ 96 < 2 ^ 63 := by omega
  have l2 : v1 / 2 ^ 96 < 2 ^ 63 := by omega
  have l3 : v / 2 ^ 48 % 2 ^ 48 < 2 ^ 63 := by omega
  have l4 : v1 / 2 ^ 48 % 2 ^ 48 < 2 ^ 63 := by omega
  have l5 : v % 2 ^ 48 < 2 ^ 63 := by omega
  have l6 : v1 % 2 ^ 48 < 2 ^ 63 := by omega
  rw [x_cmpw] at h
  rw [a, b, c, a1, b1, c1] at h ⊢
  rw [nL_eq l1 l2, nL_eq l3 l4]
  refine ⟨fun z => ?_, fun z => ?_⟩
  · rw [if_pos z] at h
    refine ⟨fun z2 => ?_, fun z2 => ?_⟩
    · rw [if_pos z2] at h
      exact b_cmpL l5 l6 h
    · rw [if_neg z2] at h
      exact b_cmpL l3 l4 h
  · rw [if_neg z] at h
    exact b_cmpL l1 l2 h
theorem c_wsub {post : Int64 → Int64 → Int64 → Int64 → Int64 → Int64 → Prop} (hw : wd v lo mi hi) (hw1 : wd v1 lo1 mi1 hi1) (hv : v1 ≤ v) (h : ∀ lo' mi' hi', wd (v - v1) lo' mi' hi' → post lo' mi' hi' lo1 mi1 hi1) : w328_wp post lo mi hi lo1 mi1 hi1 := by
  have x0 := x_w3 v
  have x1 := x_w3 v1
  obtain ⟨a, b, c, d⟩ := hw
  obtain ⟨a1, b1, c1, d1⟩ := hw1
  unfold w328_wp
  intro z1 e1 z2 e2 z3 e3 z4 e4 z5 e5
  have l1 : v / 2 ^ 96 < 2 ^ 62 := by omega
  have l2 : v1 / 2 ^ 96 < 2 ^ 62 := by omega
  have l3 : v / 2 ^ 48 % 2 ^ 48 < 2 ^ 48 := by omega
  have l4 : v1 / 2 ^ 48 % 2 ^ 48 < 2 ^ 48 := by omega
  have l5 : v % 2 ^ 48 < 2 ^ 48 := by omega
  have l6 : v1 % 2 ^ 48 < 2 ^ 48 := by omega
  generalize v / 2 ^ 96 = h0 at *
  generalize v / 2 ^ 48 % 2 ^ 48 = m0 at *
  generalize v % 2 ^ 48 = l0 at *
  generalize v1 / 2 ^ 96 = h1 at *
  generalize v1 / 2 ^ 48 % 2 ^ 48 = m1 at *
  generalize v1 % 2 ^ 48 = l1 at *
  have f1 : z1 = iL ((l0 : Int) - l1) := by rw [e1, a, a1, iL_n, iL_n, iL_sub]
  have f2 : z2 = iL ((m0 : Int) - m1 + ((l0 : Int) - l1) / 2 ^ 48) := by
    rw [e2, b, b1, f1, iL_n, iL_n, iL_sub, iL_shr (k := 48) (by decide) (by omega) (by omega), iL_add]
  have f3 : z3 = iL (((l0 : Int) - l1) % 2 ^ 48) := by rw [e3, f1, iL_low]
  have f4 : z4 = iL (((m0 : Int) - m1 + ((l0 : Int) - l1) / 2 ^ 48) % 2 ^ 48) := by rw [e4, f2, iL_low]
  have f5 : z5 = iL ((h0 : Int) - h1 + ((m0 : Int) - m1 + ((l0 : Int) - l1) / 2 ^ 48) / 2 ^ 48) := by
    rw [e5, c, c1, f2, iL_n, iL_n, iL_sub, iL_shr (k := 48) (by decide) (by omega) (by omega), iL_add]
  have hn := x_norm (a := (l0 : Int) - l1) (b := (m0 : Int) - m1) (c := (h0 : Int) - h1) (s := ((v - v1 : Nat) : Int)) (by omega) (by omega) (by omega)
  rw [← f3, ← f4, ← f5, Int.toNat_natCast] at hn
  exact h _ _ _ hn
theorem c_take {post : Int32 → Int64 → Int64 → Int64 → Prop} {a b c : Int} (ha : -2 ^ 63 < a) (ha2 : a < 2 ^ 63) (hb : -2 ^ 62 < b) (hb2 : b < 2 ^ 62) (hc : -2 ^ 61 < c) (hc2 : c < 2 ^ 61)
    (h0 : 0 ≤ (if c < 0 then -1 else 1) * (c * 2 ^ 96 + b * 2 ^ 48 + a)) (h : ∀ lo' mi' hi', wd (c * 2 ^ 96 + b * 2 ^ 48 + a).natAbs lo' mi' hi' → post (if c < 0 then 1 else 0) lo' mi' hi') : w317_wp post (iL a) (iL b) (iL c) lo mi hi := by
  unfold w317_wp
  have hcc : 0 ≤ lg_cmp (iL c) 0 ↔ 0 ≤ c := by
    rw [lg_cmp_ge, show (0 : Int64) = nL 0 from rfl, Int64.le_iff_toInt_le, iL_toInt (by omega) (by omega), nL_toInt (by decide)]
    exact Iff.rfl
  have key : ∀ (a b c : Int) (x7 : Int32) (x1 x3 x5 : Int64), -2 ^ 63 < a → a < 2 ^ 63 → -2 ^ 62 < b → b < 2 ^ 62 → -2 ^ 61 < c → c < 2 ^ 61 → 0 ≤ c * 2 ^ 96 + b * 2 ^ 48 + a → narrow .boolean (.int x7) = .int x7 → (∀ lo' mi' hi', wd (c * 2 ^ 96 + b * 2 ^ 48 + a).toNat lo' mi' hi' → post x7 lo' mi' hi') → (if x7 = 0 then x3 else -x3) = iL b → (if x7 = 0 then x5 else -x5) = iL c → w317_L25 post x1 x3 x5 x7 (iL a) lo mi hi := by
    intro a b c x7 x1 x3 x5 ha ha2 hb hb2 hc hc2 h0 hn h e3 e5
    have hA : -2 ^ 63 < b + a / 2 ^ 48 ∧ b + a / 2 ^ 48 < 2 ^ 63 := by omega
    have h38 : w317_L38 post x1 x3 x5 x7 (iL a) (iL b) lo mi hi := by
      unfold w317_L38
      intro z2 e2 z3 e3 z4 e4
      have f2 : z2 = iL (b + a / 2 ^ 48) := by rw [e2, iL_shr (k := 48) (by decide) (by omega) (by omega), iL_add]
      have f3 : z3 = iL (a % 2 ^ 48) := by rw [e3, iL_low]
      have f4 : z4 = iL ((b + a / 2 ^ 48) % 2 ^ 48) := by rw [e4, f2, iL_low]
      have h80 : w317_L80 post x1 x3 x5 x7 (iL a) z2 (iL c) z3 z4 hi := by
        unfold w317_L80
        intro z1 e1
        have f1 : z1 = iL (c + (b + a / 2 ^ 48) / 2 ^ 48) := by rw [e1, f2, iL_shr (k := 48) (by decide) (by omega) (by omega), iL_add]
        refine ⟨hn, h _ _ _ ?_⟩
        rw [f1, f3, f4]
        exact x_norm rfl h0 (by omega)
      refine ⟨fun z => ?_, fun z => ?_⟩
      · rw [if_pos z] at e5; rw [← e5] at h80; exact h80
      · rw [if_neg z] at e5; rw [← e5] at h80; exact h80
    refine ⟨fun z => ?_, fun z => ?_⟩
    · rw [if_pos z] at e3; rw [← e3] at h38; exact h38
    · rw [if_neg z] at e3; rw [← e3] at h38; exact h38
  by_cases q : c < 0
  · rw [if_pos q] at h0 h
    refine ⟨fun z => absurd (hcc.1 z) (by omega), fun _ => ⟨fun z => absurd z (by decide), fun _ => ?_⟩⟩
    rw [iL_neg]
    refine key (-a) (-b) (-c) 1 _ _ _ (by omega) (by omega) (by omega) (by omega) (by omega) (by omega) (by omega) rfl (fun lo' mi' hi' hw => h _ _ _ ?_) ?_ ?_
    · have e : (c * 2 ^ 96 + b * 2 ^ 48 + a).natAbs = (-c * 2 ^ 96 + -b * 2 ^ 48 + -a).toNat := by omega
      rw [e]; exact hw
    · rw [if_neg (by decide), iL_neg]
    · rw [if_neg (by decide), iL_neg]
  · rw [if_neg q] at h0 h
    refine ⟨fun _ => ⟨fun _ => ?_, fun z => absurd rfl z⟩, fun z => absurd (hcc.2 (by omega)) z⟩
    refine key a b c 0 _ _ _ ha ha2 hb hb2 hc hc2 (by omega) rfl (fun lo' mi' hi' hw => h _ _ _ ?_) (if_pos rfl) (if_pos rfl)
    have e : (c * 2 ^ 96 + b * 2 ^ 48 + a).natAbs = (c * 2 ^ 96 + b * 2 ^ 48 + a).toNat := by omega
    rw [e]; exact hw
end CWE
