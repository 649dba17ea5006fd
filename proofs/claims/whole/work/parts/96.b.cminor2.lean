/-! PURE, the class: Minors: floorMod, expand over a field, signOf, inverse -/
theorem iL_xor {a p : Int} (ha1 : -2 ^ 63 ≤ a) (ha2 : a < 2 ^ 63) (hp1 : 0 ≤ p) (hp2 : p < 2 ^ 63) : 0 ≤ lg_cmp (iL a ^^^ iL p) 0 ↔ 0 ≤ a := by
  rw [lg_cmp_ge, Int64.le_iff_toInt_le]
  show (0 : Int) ≤ ((iL a).toBitVec ^^^ (iL p).toBitVec).toInt ↔ _
  have e1 := BitVec.msb_eq_toInt (x := (iL a).toBitVec ^^^ (iL p).toBitVec)
  have e2 := BitVec.msb_eq_toInt (x := (iL a).toBitVec)
  have e3 := BitVec.msb_eq_toInt (x := (iL p).toBitVec)
  rw [show (iL a).toBitVec.toInt = (iL a).toInt from rfl, iL_toInt ha1 ha2] at e2
  rw [show (iL p).toBitVec.toInt = (iL p).toInt from rfl, iL_toInt (by omega) hp2, decide_eq_false (show ¬ p < 0 by omega)] at e3
  rw [BitVec.msb_xor, e2, e3, Bool.xor_false] at e1
  have e4 := decide_eq_decide.1 e1
  omega
theorem c_fmod {post : Int64 → Prop} {a p : Int} (ha1 : -2 ^ 62 < a) (ha2 : a < 2 ^ 62) (hp1 : 0 < p) (hp2 : p < 2 ^ 31) (h : post (iL (a % p))) : w242_wp post (iL a) (iL p) := by
  unfold w242_wp w242_L25
  have ed : iL a / iL p = iL (a.tdiv p) := by
    have h1 : (a.tdiv p).natAbs ≤ a.natAbs := by
      rw [Int.natAbs_tdiv]; exact Nat.div_le_self _ _
    apply Int64.toInt_inj.1
    rw [Int64.toInt_div, iL_toInt (by omega) (by omega), iL_toInt (by omega) (by omega), iL_toInt (by omega) (by omega), Int.bmod_eq_of_le (by omega) (by omega)]
  have em : iL a - iL a / iL p * iL p = iL (a.tmod p) := by
    rw [ed, iL_mul, iL_sub, Int.tmod_def, Int.mul_comm p]
  have et := Int.tmod_eq_emod (a := a) (b := p)
  have hlt : (a.tmod p).natAbs < p.natAbs := by
    rw [Int.natAbs_tmod]; exact Nat.mod_lt _ (by omega)
  refine ⟨fun z => ?_, fun z1 e1 => ?_⟩
  · have := congrArg Int64.toInt z
    rw [iL_toInt (by omega) (by omega)] at this
    have e0 : (0 : Int64).toInt = 0 := rfl
    omega
  · rw [em] at e1
    rw [iL_xor (by omega) (by omega) (by omega) (by omega), e1]
    have e0 : lg_cmp (iL (a.tmod p)) 0 = 0 ↔ a.tmod p = 0 := by
      rw [lg_cmp_eq]
      refine ⟨fun z => ?_, fun z => by rw [z]; rfl⟩
      have := congrArg Int64.toInt z
      rw [iL_toInt (by omega) (by omega)] at this
      have e0 : (0 : Int64).toInt = 0 := rfl
      omega
    refine ⟨fun z => ?_, fun z => ⟨fun z2 => ?_, fun z2 => ?_⟩⟩
    · rw [if_pos (Or.inl z), show a % p - ((0 : Nat) : Int) = a % p from Int.sub_zero _] at et
      rw [et]; exact h
    · rw [e0] at z2
      by_cases q : 0 ≤ a ∨ p ∣ a
      · rw [if_pos q, show a % p - ((0 : Nat) : Int) = a % p from Int.sub_zero _] at et
        rw [et]; exact h
      · exact absurd (Or.inr (Int.dvd_of_tmod_eq_zero z2)) q
    · rw [e0] at z2
      have q : ¬ (0 ≤ a ∨ p ∣ a) := fun q => q.elim (fun k => z k) (fun k => z2 (Int.tmod_eq_zero_of_dvd k))
      rw [if_neg q] at et
      rw [iL_add, et, show a % p - (p.natAbs : Int) + p = a % p by omega]
      exact h
def x_md (p : Nat) (z : Int) : Int := if p = 0 then z else z % (p : Int)
theorem mn_small {z : Int} {lo : Int64} (h0 : 0 ≤ z) (h1 : z < 2 ^ 48) (h : lo = iL z) : mn z lo 0 0 := by
  refine ⟨by rw [h]; congr 1; omega, ?_, ?_⟩
  · rw [show z / 2 ^ 48 % 2 ^ 48 = 0 by omega]; rfl
  · rw [show z / 2 ^ 96 = 0 by omega]; rfl
section CMP
variable {q_l q_m q_h l_l l_m l_h : Nat} {m_height m_size : Int32} {m_loaded : Option Nat} {g_l g_m g_h : Nat → Int64} {g_r : Nat → Int32} {n_r n S at_ p : Nat} {r : Nat → Int}
theorem c_expand {Z : Nat → Int} {post : Nat → Nat → Nat → Nat → Nat → Nat → Int32 → Int32 → Int32 → Option Nat → (Nat → Int64) → (Nat → Int64) → (Nat → Int64) → (Nat → Int32) → Prop} (hn : n ≤ 12) (hS : S < 2 ^ n) (hll : 2 ^ n ≤ l_l) (hlm : 2 ^ n ≤ l_m) (hlh : 2 ^ n ≤ l_h) (hl1 : l_l < 2 ^ 31) (hl2 : l_m < 2 ^ 31) (hl3 : l_h < 2 ^ 31) (hat : at_ + n ≤ n_r) (hnr : n_r < 2 ^ 31) (hr : ∀ e, e < 12 → (r e).natAbs ≤ 999) (hg : ∀ e, e < n → g_r (at_ + e) = Int32.ofInt (r e)) (hp : p < 2 ^ 31)
    (hL : ∀ T, T < 2 ^ n → mn (Z T) (g_l T) (g_m T) (g_h T)) (hZ : ∀ T, (Z T).natAbs < 2 ^ 143) (hZp : p ≠ 0 → ∀ T, 0 ≤ Z T ∧ Z T < p)
    (h : ∀ g_l' g_m' g_h', (∀ T, T ≠ S → g_l' T = g_l T ∧ g_m' T = g_m T ∧ g_h' T = g_h T) → mn (x_md p (x_w r Z S)) (g_l' S) (g_m' S) (g_h' S) → post q_l q_m q_h l_l l_m l_h (nI p) (nI n) m_height m_loaded g_l' g_m' g_h' g_r) :
    w241_wp n_r post (nI S) (nI at_) q_l q_m q_h l_l l_m l_h (nI p) (nI n) m_height m_loaded g_l g_m g_h g_r := by
  have h2n : 2 ^ n ≤ 2 ^ 12 := Nat.pow_le_pow_right (by decide) hn
  have htl : ∀ e, e < n → x_t S e < 2 ^ n := fun e he => Nat.xor_lt_two_pow hS (Nat.pow_lt_pow_right (by decide) he)
  have us : ∀ (g : Nat → Int64) (i : Nat) (x : Int64), vp_updL g i x i = x := fun g i x => by simp [vp_updL]
  have un : ∀ (g : Nat → Int64) (i j : Nat) (x : Int64), j ≠ i → vp_updL g i x j = g j := fun g i j x h => by simp [vp_updL, h]
  by_cases q : p = 0
  · rw [q]
    refine c_expand0 (Z := Z) hn hS hll hlm hlh hl1 hl2 hl3 hat hnr hr hg (fun e he _ => hL _ (htl e he)) hZ ?_
    rw [q] at h
    refine h _ _ _ (fun T hT => ⟨un _ _ _ _ hT, un _ _ _ _ hT, un _ _ _ _ hT⟩) ?_
    rw [us, us, us, show x_md 0 (x_w r Z S) = x_w r Z S from if_pos rfl]
    exact ⟨rfl, rfl, rfl⟩
  · unfold w241_wp
    intro z12 e12
    rw [e12]
    refine c_exp20 (Lo := fun T => Z T % 2 ^ 48) (Mi := fun T => Z T / 2 ^ 48 % 2 ^ 48) (Hi := fun T => Z T / 2 ^ 96) hn hS hll hlm hlh hl1 hl2 hl3 hat hnr hr hg (fun e he _ => hL _ (htl e he)) ?_
    have ez : (fun T => Z T % 2 ^ 48) = Z := funext (fun T => by have := hZp q T; omega)
    rw [ez]
    have b1 := x_wbd (F := Z) (S := S) (B := 2 ^ 31) hr (fun e he _ => by have := hZp q (x_t S e); omega)
    refine ⟨fun _ => ⟨fun z => absurd z (nI_ne0 (by omega) hp), fun _ => ?_⟩, fun z => absurd (by decide) z⟩
    rw [nL_of hp, iL_n]
    refine c_fmod (by omega) (by omega) (by omega) (by omega) ⟨b_in (by omega) (by omega), ?_⟩
    rw [nI_clamp (show S < 2 ^ 31 by omega)]
    refine h _ _ _ (fun T hT => ⟨un _ _ _ _ hT, rfl, rfl⟩) ?_
    obtain ⟨k1, k2, k3⟩ := hL S hS
    have hzS := hZp q S
    rw [us, k2, k3, show Z S / 2 ^ 48 % 2 ^ 48 = 0 by omega, show Z S / 2 ^ 96 = 0 by omega, show x_md p (x_w r Z S) = x_w r Z S % (p : Int) from if_neg q]
    have m0 := Int.emod_nonneg (x_w r Z S) (show (p : Int) ≠ 0 by omega)
    have m1 := Int.emod_lt_of_pos (x_w r Z S) (show (0 : Int) < p by omega)
    exact mn_small m0 (by omega) rfl
theorem c_msign {m_field : Int32} {post : Int32 → Nat → Nat → Nat → Nat → Nat → Nat → Int32 → Int32 → Int32 → Option Nat → (Nat → Int64) → (Nat → Int64) → (Nat → Int64) → Prop} {z : Int} (h1 : S < l_l) (h2 : S < l_m) (h3 : S < l_h) (hS : S < 2 ^ 31) (hz : z.natAbs < 2 ^ 150) (hm : mn z (g_l S) (g_m S) (g_h S))
    (h : post (if z < 0 then -1 else if z = 0 then 0 else 1) q_l q_m q_h l_l l_m l_h m_field m_size m_height m_loaded g_l g_m g_h) : w243_wp post (nI S) q_l q_m q_h l_l l_m l_h m_field m_size m_height m_loaded g_l g_m g_h := by
  unfold w243_wp w243_L43
  rw [nI_clamp hS]
  obtain ⟨k1, k2, k3⟩ := hm
  have hh : 0 ≤ lg_cmp (g_h S) 0 ↔ 0 ≤ z := by
    rw [lg_cmp_ge, k3, Int64.le_iff_toInt_le, iL_toInt (by omega) (by omega), show (0 : Int64).toInt = 0 from rfl]
    omega
  rw [hh]
  refine ⟨b_in h3 hS, fun q => ⟨b_in h1 hS, b_in h2 hS, b_in h3 hS, ?_⟩, fun q => ?_⟩
  · obtain ⟨v, rfl⟩ := Int.eq_ofNat_of_zero_le q
    have e : lg_cmp ((g_l S ||| g_m S) ||| g_h S) 0 = 0 ↔ (v : Int) = 0 := by
      have a1 : g_l S = nL (v % 2 ^ 48) := by rw [k1, iL_n]; congr 1
      have a2 : g_m S = nL (v / 2 ^ 48 % 2 ^ 48) := by rw [k2, iL_n]; congr 1
      have a3 : g_h S = nL (v / 2 ^ 96) := by rw [k3, iL_n]; congr 1
      rw [a1, a2, a3, nL_or, nL_or, show (0 : Int64) = nL 0 from rfl, nL_eq ?_ (by decide), Nat.or_eq_zero_iff, Nat.or_eq_zero_iff]
      · omega
      · exact Nat.or_lt_two_pow (Nat.or_lt_two_pow (by omega) (by omega)) (by omega)
    rw [if_neg (by omega)] at h
    refine ⟨fun w => ?_, fun w => ?_⟩
    · rw [if_neg (fun k => w (e.2 k))] at h; exact h
    · rw [if_pos (e.1 w)] at h; exact h
  · rw [if_pos (by omega)] at h; exact h
theorem c_inverse {post : Int64 → Nat → Nat → Nat → Nat → Nat → Nat → Int32 → Int32 → Int32 → Option Nat → (Nat → Int64) → (Nat → Int64) → (Nat → Int64) → Prop} {a : Nat} (hp : p < 2 ^ 31) (hp1 : 0 < p) (ha : a < p)
    (h : ∀ b, 1 ≤ b → b < p → a * b % p = 1 → (∀ c, 1 ≤ c → c < b → a * c % p ≠ 1) → post (nL b) q_l q_m q_h l_l l_m l_h (nI p) m_size m_height m_loaded g_l g_m g_h)
    (h0 : (∀ c, 1 ≤ c → c < p → a * c % p ≠ 1) → post 0 q_l q_m q_h l_l l_m l_h (nI p) m_size m_height m_loaded g_l g_m g_h) : w316_wp post (nL a) q_l q_m q_h l_l l_m l_h (nI p) m_size m_height m_loaded g_l g_m g_h := by
  unfold w316_wp
  have main : ∀ (t b : Nat), 1 ≤ b → b + t = p → (∀ c, 1 ≤ c → c < b → a * c % p ≠ 1) → w316_L2 post (t + 1) (nL a) (nL b) q_l q_m q_h l_l l_m l_h (nI p) m_size m_height m_loaded g_l g_m g_h := by
    intro t
    induction t with
    | zero =>
      intro b hb hbt hc
      refine ⟨fun _ => h0 (fun c c1 c2 => hc c c1 (by omega)), fun z => absurd ((lg_cmp_ge _ _).2 ?_) z⟩
      rw [nL_of hp, nL_leq (by omega) (by omega)]; omega
    | succ t ih =>
      intro b hb hbt hc
      have hab : a * b < 2 ^ 63 := Nat.lt_of_lt_of_le (Nat.mul_lt_mul_of_lt_of_lt (show a < 2 ^ 31 by omega) (show b < 2 ^ 31 by omega)) (by decide)
      refine ⟨fun z => ?_, fun _ => ⟨fun z => ?_, ?_⟩⟩
      · rw [lg_cmp_ge, nL_of hp, nL_leq (by omega) (by omega)] at z; omega
      · rw [nL_of hp] at z
        have := nL_inj (b := 0) (by omega) (by decide) z
        omega
      · rw [nL_of hp, nL_mul, nL_modg hab (by omega)]
        have e : lg_cmp (nL (a * b % p)) 1 = 0 ↔ a * b % p = 1 := nL_eq (b := 1) (Nat.lt_of_le_of_lt (Nat.mod_le _ _) hab) (by decide)
        rw [e]
        refine ⟨fun z z1 e1 => ?_, fun z => h b hb (by omega) z hc⟩
        rw [e1, show nL b + 1 = nL (b + 1) from nL_add b 1]
        refine ih (b + 1) (by omega) (by omega) (fun c c1 c2 => ?_)
        by_cases k : c = b
        · rw [k]; exact z
        · exact hc c c1 (by omega)
  exact ⟨_, main (p - 1) 1 (by omega) (by omega) (fun c c1 c2 => by omega)⟩
end CMP
