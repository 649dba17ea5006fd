/-! PURE: longs as numbers; the class: Wide -/
theorem nL_or (a b : Nat) : nL a ||| nL b = nL (a ||| b) := by
  apply Int64.toBitVec_inj.1
  show BitVec.ofNat 64 a ||| BitVec.ofNat 64 b = BitVec.ofNat 64 (a ||| b)
  apply BitVec.eq_of_getLsbD_eq
  intro i hi
  simp [hi]
theorem nL_add (a b : Nat) : nL a + nL b = nL (a + b) := (Int64.ofNat_add a b).symm
theorem nL_mul (a b : Nat) : nL a * nL b = nL (a * b) := (Int64.ofNat_mul a b).symm
theorem nL_sub {a b : Nat} (h : b ≤ a) : nL a - nL b = nL (a - b) := by
  have e : nL a = nL (a - b) + nL b := by rw [nL_add, Nat.sub_add_cancel h]
  rw [e]
  exact Int64.add_sub_cancel _ _
theorem nL_divg {a b : Nat} (ha : a < 2 ^ 63) (hb : b < 2 ^ 63) : nL a / nL b = nL (a / b) := by
  apply Int64.toInt_inj.1
  have h := Nat.div_le_self a b
  have h2 : a / b < 2 ^ 63 := by omega
  rw [Int64.toInt_div, nL_toInt ha, nL_toInt hb, nL_toInt h2, ← Int.ofNat_tdiv]
  generalize a / b = q at h2
  rw [Int.bmod_eq_of_le (by omega) (by omega)]
theorem nL_modg {a b : Nat} (ha : a < 2 ^ 63) (hb : b < 2 ^ 63) : nL a - nL a / nL b * nL b = nL (a % b) := by
  rw [nL_divg ha hb, nL_mul, nL_sub (Nat.div_mul_le_self a b)]
  congr 1
  have := Nat.div_add_mod a b
  rw [Nat.mul_comm] at this
  omega
theorem nL_shl {a k : Nat} {s : Int64} (hs : (s.toBitVec.smod 64).toNat = k) : nL a <<< s = nL (a * 2 ^ k) := by
  apply Int64.toBitVec_inj.1
  show BitVec.ofNat 64 a <<< (s.toBitVec.smod 64) = BitVec.ofNat 64 (a * 2 ^ k)
  apply BitVec.eq_of_toNat_eq
  rw [BitVec.shiftLeft_eq', hs, BitVec.toNat_shiftLeft, BitVec.toNat_ofNat, BitVec.toNat_ofNat, Nat.shiftLeft_eq, Nat.mod_mul_mod]
theorem nL_shr {a k : Nat} {s : Int64} (hs : (s.toBitVec.smod 64).toNat = k) (ha : a < 2 ^ 63) : nL a >>> s = nL (a / 2 ^ k) := by
  apply Int64.toInt_inj.1
  have h := Nat.div_le_self a (2 ^ k)
  rw [nL_toInt (show a / 2 ^ k < 2 ^ 63 by omega)]
  show ((nL a).toBitVec.sshiftRight' (s.toBitVec.smod 64)).toInt = _
  rw [BitVec.toInt_sshiftRight', hs, show (nL a).toBitVec.toInt = (nL a).toInt from rfl, nL_toInt ha, Int.shiftRight_eq_div_pow]
  rfl
theorem nL_low (a k : Nat) (hk : k < 64) : nL a &&& nL (2 ^ k - 1) = nL (a % 2 ^ k) := by
  apply Int64.toBitVec_inj.1
  show BitVec.ofNat 64 a &&& BitVec.ofNat 64 (2 ^ k - 1) = BitVec.ofNat 64 (a % 2 ^ k)
  have hp : 2 ^ k < 2 ^ 64 := Nat.pow_lt_pow_right (by decide) hk
  have hm : a % 2 ^ k < 2 ^ k := Nat.mod_lt _ (Nat.two_pow_pos k)
  apply BitVec.eq_of_toNat_eq
  rw [BitVec.toNat_and, BitVec.toNat_ofNat, BitVec.toNat_ofNat, BitVec.toNat_ofNat, Nat.mod_eq_of_lt (show 2 ^ k - 1 < 2 ^ 64 by omega), Nat.and_two_pow_sub_one_eq_mod, Nat.mod_eq_of_lt (show a % 2 ^ k < 2 ^ 64 by omega), Nat.mod_mod_of_dvd _ (Nat.pow_dvd_pow 2 (by omega))]
theorem nL_ora {a b k : Nat} (hb : b < 2 ^ k) : nL (a * 2 ^ k) ||| nL b = nL (a * 2 ^ k + b) := by
  rw [nL_or, Nat.mul_comm, Nat.two_pow_add_eq_or_of_lt hb]
theorem nL_eq {a b : Nat} (ha : a < 2 ^ 63) (hb : b < 2 ^ 63) : lg_cmp (nL a) (nL b) = 0 ↔ a = b := by
  rw [lg_cmp_eq]
  exact ⟨nL_inj ha hb, fun e => by rw [e]⟩
/-- a wide number -/
def wd (v : Nat) (lo mi hi : Int64) : Prop := lo = nL (v % 2 ^ 48) ∧ mi = nL (v / 2 ^ 48 % 2 ^ 48) ∧ hi = nL (v / 2 ^ 96) ∧ v < 2 ^ 158
section CWD
variable {lo mi hi lo1 mi1 hi1 : Int64} {v v1 : Nat}
theorem c_wzero {post : Int32 → Int64 → Int64 → Int64 → Prop} (hw : wd v lo mi hi) (h : post (if v = 0 then 1 else 0) lo mi hi) : w318_wp post lo mi hi := by
  obtain ⟨a, b, c, d⟩ := hw
  unfold w318_wp w318_L24
  have e : lg_cmp ((lo ||| mi) ||| hi) 0 = 0 ↔ v = 0 := by
    rw [a, b, c, nL_or, nL_or, show (0 : Int64) = nL 0 from rfl, nL_eq ?_ (by decide), Nat.or_eq_zero_iff, Nat.or_eq_zero_iff]
    · omega
    · exact Nat.or_lt_two_pow (Nat.or_lt_two_pow (by omega) (by omega)) (by omega)
  refine ⟨fun z => ⟨rfl, ?_⟩, fun z => ⟨rfl, ?_⟩⟩
  · rw [if_neg (fun k => z (e.2 k))] at h; exact h
  · rw [if_pos (e.1 z)] at h; exact h
theorem c_wone {post : Int32 → Int64 → Int64 → Int64 → Prop} (hw : wd v lo mi hi) (h : post (if v = 1 then 1 else 0) lo mi hi) : w333_wp post lo mi hi := by
  obtain ⟨a, b, c, d⟩ := hw
  unfold w333_wp w333_L27 w333_L28
  have e1 : lg_cmp lo 1 = 0 ↔ v % 2 ^ 48 = 1 := by
    rw [a, show (1 : Int64) = nL 1 from rfl, nL_eq (by omega) (by decide)]
  have e2 : lg_cmp (mi ||| hi) 0 = 0 ↔ v / 2 ^ 48 = 0 := by
    rw [b, c, nL_or, show (0 : Int64) = nL 0 from rfl, nL_eq ?_ (by decide), Nat.or_eq_zero_iff]
    · omega
    · exact Nat.or_lt_two_pow (by omega) (by omega)
  rw [e1, e2]
  by_cases z : v = 1
  · rw [if_pos z] at h
    exact ⟨fun k => absurd (by omega) k, fun _ => ⟨fun k => absurd (by omega) k, fun _ => ⟨rfl, h⟩⟩⟩
  · rw [if_neg z] at h
    exact ⟨fun _ => ⟨rfl, h⟩, fun k1 => ⟨fun _ => ⟨rfl, h⟩, fun k2 => absurd (by omega) z⟩⟩
theorem c_wshort {post : Int32 → Int64 → Int64 → Int64 → Prop} (hw : wd v lo mi hi) (h : post (if v < 2 ^ 63 then 1 else 0) lo mi hi) : w320_wp post lo mi hi := by
  obtain ⟨a, b, c, d⟩ := hw
  unfold w320_wp w320_L25 w320_L26
  have e1 : lg_cmp hi 0 = 0 ↔ v / 2 ^ 96 = 0 := by
    rw [c, show (0 : Int64) = nL 0 from rfl, nL_eq (by omega) (by decide)]
  have e2 : lg_cmp (mi >>> ((15 : Int32).toInt64 &&& 63)) 0 = 0 ↔ v / 2 ^ 48 % 2 ^ 48 / 2 ^ 15 = 0 := by
    rw [b, nL_shr (k := 15) (by decide) (by omega), show (0 : Int64) = nL 0 from rfl, nL_eq (by omega) (by decide)]
  rw [e1, e2]
  by_cases z : v < 2 ^ 63
  · rw [if_pos z] at h
    exact ⟨fun k => absurd (by omega) k, fun _ => ⟨fun k => absurd (by omega) k, fun _ => ⟨rfl, h⟩⟩⟩
  · rw [if_neg z] at h
    exact ⟨fun _ => ⟨rfl, h⟩, fun k1 => ⟨fun _ => ⟨rfl, h⟩, fun k2 => absurd (by omega) z⟩⟩
theorem c_wlong {post : Int64 → Int64 → Int64 → Int64 → Prop} (hw : wd v lo mi hi) (hv : v < 2 ^ 63) (h : post (nL v) lo mi hi) : w321_wp post lo mi hi := by
  have hw' := hw
  obtain ⟨a, b, c, d⟩ := hw
  unfold w321_wp
  have e : (mi <<< ((48 : Int32).toInt64 &&& 63)) ||| lo = nL v := by
    rw [a, b, nL_shl (k := 48) (by decide), nL_ora (by omega)]
    congr 1; omega
  rw [e]; exact h
theorem x_t10a {h m l q1 r1 q2 r2 q3 r3 B : Nat} (e1 : h = 10 * q1 + r1) (e2 : r1 * B + m = 10 * q2 + r2) (e3 : r2 * B + l = 10 * q3 + r3) : h * (B * B) + m * B + l = 10 * (q1 * (B * B) + q2 * B + q3) + r3 := by grind
theorem x_b2 {x q : Nat} (h : q < 2 ^ 48) : (x * 2 ^ 48 + q) % 2 ^ 48 = q ∧ (x * 2 ^ 48 + q) / 2 ^ 48 = x := by omega
theorem x_lt63 {r l : Nat} (h : r < 10) (h2 : l < 2 ^ 48) : r * 2 ^ 48 + l < 2 ^ 63 := by omega
theorem x_t10 {h m l q1 r1 q2 r2 q3 r3 : Nat} (hm : m < 2 ^ 48) (hl : l < 2 ^ 48) (e1 : h = 10 * q1 + r1) (e2 : r1 * 2 ^ 48 + m = 10 * q2 + r2) (e3 : r2 * 2 ^ 48 + l = 10 * q3 + r3) (b1 : r1 < 10) (b2 : r2 < 10) (b3 : r3 < 10) :
    (h * 2 ^ 96 + m * 2 ^ 48 + l) % 10 = r3 ∧ (h * 2 ^ 96 + m * 2 ^ 48 + l) / 10 % 2 ^ 48 = q3 ∧ (h * 2 ^ 96 + m * 2 ^ 48 + l) / 10 / 2 ^ 48 % 2 ^ 48 = q2 ∧ (h * 2 ^ 96 + m * 2 ^ 48 + l) / 10 / 2 ^ 96 = q1 := by
  have k := x_t10a (B := 2 ^ 48) e1 e2 e3
  rw [show 2 ^ 48 * 2 ^ 48 = 2 ^ 96 from rfl] at k
  have k2 : q2 < 2 ^ 48 := by clear k e1 e3; omega
  have k3 : q3 < 2 ^ 48 := by clear k e1 e2; omega
  have k4 : (h * 2 ^ 96 + m * 2 ^ 48 + l) / 10 = q1 * 2 ^ 96 + q2 * 2 ^ 48 + q3 ∧ (h * 2 ^ 96 + m * 2 ^ 48 + l) % 10 = r3 := by rw [k]; clear k e1 e2 e3; omega
  have k5 : q1 * 2 ^ 96 + q2 * 2 ^ 48 + q3 = (q1 * 2 ^ 48 + q2) * 2 ^ 48 + q3 := by clear k e1 e2 e3; omega
  have k6 := x_b2 (x := q1 * 2 ^ 48 + q2) k3
  have k7 := x_b2 (x := q1) k2
  rw [k4.1, k5]
  refine ⟨k4.2, k6.1, by rw [k6.2, k7.1], ?_⟩
  rw [show 2 ^ 96 = 2 ^ 48 * 2 ^ 48 from rfl, ← Nat.div_div_eq_div_mul, k6.2, k7.2]
theorem x_w3 (v : Nat) : v = v / 2 ^ 96 * 2 ^ 96 + v / 2 ^ 48 % 2 ^ 48 * 2 ^ 48 + v % 2 ^ 48 := by omega
theorem nL_mod10 {a : Nat} (h : a < 2 ^ 63) : nL a - nL a / 10 * 10 = nL (a % 10) := nL_modg h (b := 10) (by decide)
theorem c_tenth {post : Int32 → Int64 → Int64 → Int64 → Prop} (hw : wd v lo mi hi) (h : ∀ lo' mi' hi', wd (v / 10) lo' mi' hi' → post (nI (v % 10)) lo' mi' hi') : w332_wp post lo mi hi := by
  obtain ⟨a, b, c, d⟩ := hw
  unfold w332_wp
  have dh : v / 2 ^ 96 < 2 ^ 62 := by omega
  have dm : v / 2 ^ 48 % 2 ^ 48 < 2 ^ 48 := by omega
  have dl : v % 2 ^ 48 < 2 ^ 48 := by omega
  have hv := x_w3 v
  generalize v / 2 ^ 96 = hh at *
  generalize v / 2 ^ 48 % 2 ^ 48 = mm at *
  generalize v % 2 ^ 48 = ll at *
  intro z1 e1 z2 e2 z3 e3 z4 e4 z5 e5 z6 e6
  have f1 := Nat.div_add_mod hh 10
  have g1 : hh % 10 < 10 := Nat.mod_lt _ (by decide)
  have h1 : z1 = nL (hh % 10) := by rw [e1, c]; exact nL_mod10 (by omega)
  have h2 : z2 = nL (hh / 10) := by rw [e2, c]; exact nL_div (by omega)
  generalize hh / 10 = q1 at *
  generalize hh % 10 = r1 at *
  have h3 : z3 = nL (r1 * 2 ^ 48 + mm) := by
    rw [e3, h1, b, nL_shl (k := 48) (by decide), nL_ora dm]
  have l3 := x_lt63 g1 dm
  have f2 := Nat.div_add_mod (r1 * 2 ^ 48 + mm) 10
  have g2 : (r1 * 2 ^ 48 + mm) % 10 < 10 := Nat.mod_lt _ (by decide)
  have h4 : z4 = nL ((r1 * 2 ^ 48 + mm) / 10) := by rw [e4, h3]; exact nL_div l3
  have h4' : z3 - z3 / 10 * 10 = nL ((r1 * 2 ^ 48 + mm) % 10) := by rw [h3]; exact nL_mod10 l3
  generalize (r1 * 2 ^ 48 + mm) / 10 = q2 at *
  generalize (r1 * 2 ^ 48 + mm) % 10 = r2 at *
  have h5 : z5 = nL (r2 * 2 ^ 48 + ll) := by
    rw [e5, h4', a, nL_shl (k := 48) (by decide), nL_ora dl]
  have l5 := x_lt63 g2 dl
  have f3 := Nat.div_add_mod (r2 * 2 ^ 48 + ll) 10
  have g3 : (r2 * 2 ^ 48 + ll) % 10 < 10 := Nat.mod_lt _ (by decide)
  have h6 : z6 = nL ((r2 * 2 ^ 48 + ll) / 10) := by rw [e6, h5]; exact nL_div l5
  have h7 : z5 - z5 / 10 * 10 = nL ((r2 * 2 ^ 48 + ll) % 10) := by rw [h5]; exact nL_mod10 l5
  generalize (r2 * 2 ^ 48 + ll) / 10 = q3 at *
  generalize (r2 * 2 ^ 48 + ll) % 10 = r3 at *
  obtain ⟨p1, p2, p3, p4⟩ := x_t10 dm dl f1.symm f2.symm f3.symm g1 g2 g3
  rw [← hv] at p1 p2 p3 p4
  have e8 : (z5 - z5 / 10 * 10).toInt32 = nI (v % 10) := by rw [h7, p1]; exact Int64.toInt32_ofNat
  rw [e8]
  refine h _ _ _ ⟨by rw [h6, p2], by rw [h4, p3], by rw [h2, p4], Nat.lt_of_le_of_lt (Nat.div_le_self _ _) d⟩
theorem c_halve {post : Int64 → Int64 → Int64 → Prop} (hw : wd v lo mi hi) (h : ∀ lo' mi' hi', wd (v / 2) lo' mi' hi' → post lo' mi' hi') : w324_wp post lo mi hi := by
  obtain ⟨a, b, c, d⟩ := hw
  unfold w324_wp
  intro z1 e1 z2 e2 z3 e3
  refine h _ _ _ ⟨?_, ?_, ?_, by omega⟩
  · rw [e1, a, b, nL_shr (k := 1) (by decide) (by omega), show (1 : Int64) = nL (2 ^ 1 - 1) from rfl, nL_low _ 1 (by decide), nL_shl (k := 47) (by decide), Int64.or_comm, nL_ora (by omega)]
    congr 1; omega
  · rw [e2, b, c, nL_shr (k := 1) (by decide) (by omega), show (1 : Int64) = nL (2 ^ 1 - 1) from rfl, nL_low _ 1 (by decide), nL_shl (k := 47) (by decide), Int64.or_comm, nL_ora (by omega)]
    congr 1; omega
  · rw [e3, c, nL_shr (k := 1) (by decide) (by omega)]
    congr 1; omega
theorem c_twice {post : Int64 → Int64 → Int64 → Prop} {bit : Nat} (hw : wd v lo mi hi) (hv : v < 2 ^ 157) (hbit : bit < 2) (h : ∀ lo' mi' hi', wd (2 * v + bit) lo' mi' hi' → post lo' mi' hi') : w329_wp post (nI bit) lo mi hi := by
  obtain ⟨a, b, c, d⟩ := hw
  unfold w329_wp
  intro z1 e1 z2 e2 z3 e3
  have eM : (281474976710655 : Int64) = nL (2 ^ 48 - 1) := rfl
  refine h _ _ _ ⟨?_, ?_, ?_, by omega⟩
  · rw [e3, a, nL_shl (k := 1) (by decide), eM, nL_low _ 48 (by decide), nL_of (by omega), show v % 2 ^ 48 * 2 ^ 1 % 2 ^ 48 = v % 2 ^ 47 * 2 ^ 1 by omega, nL_ora (by omega)]
    congr 1; omega
  · rw [e2, b, a, nL_shl (k := 1) (by decide), eM, nL_low _ 48 (by decide), nL_shr (k := 47) (by decide) (by omega), show v / 2 ^ 48 % 2 ^ 48 * 2 ^ 1 % 2 ^ 48 = v / 2 ^ 48 % 2 ^ 47 * 2 ^ 1 by omega, nL_ora (by omega)]
    congr 1; omega
  · rw [e1, c, b, nL_shl (k := 1) (by decide), nL_shr (k := 47) (by decide) (by omega), nL_ora (by omega)]
    congr 1; omega
end CWD
