/-! PURE, the class: Minors.writeRatio over a field -/
def x_rtp (p : Nat) (neg : Bool) (a b : Nat) : List Nat := x_dg (if neg = true then (p - a * x_inv p b % p) % p else a * x_inv p b % p)
theorem x_inv1 {p b c : Nat} (h1 : c < p) (h2 : b * c % p = 1) (h3 : ∀ d, 1 ≤ d → d < c → b * d % p ≠ 1) : x_inv p b = c := by
  have e : (List.range p).find? (fun d => decide (b * d % p = 1)) = some c := by
    rw [List.find?_range_eq_some]
    refine ⟨decide_eq_true h2, List.mem_range.2 h1, fun d hd => ?_⟩
    by_cases q : d = 0
    · rw [q, Nat.mul_zero, Nat.zero_mod]; rfl
    · rw [decide_eq_false (h3 d (by omega) hd)]; rfl
  unfold x_inv
  rw [e]; rfl
theorem x_inv0 {p b : Nat} (h3 : ∀ d, 1 ≤ d → d < p → b * d % p ≠ 1) : x_inv p b = 0 := by
  have e : (List.range p).find? (fun d => decide (b * d % p = 1)) = none := by
    rw [List.find?_eq_none]
    intro d hd
    have hd := List.mem_range.1 hd
    by_cases q : d = 0
    · rw [q, Nat.mul_zero, Nat.zero_mod]; decide
    · rw [decide_eq_false (h3 d (by omega) hd)]; decide
  unfold x_inv
  rw [e]; rfl
theorem x_invl {p b : Nat} (hp : 0 < p) : x_inv p b < p := by
  unfold x_inv
  cases e : (List.range p).find? (fun d => decide (b * d % p = 1)) with
  | none => exact hp
  | some c => exact List.mem_range.1 (List.mem_of_find?_eq_some e)
theorem x_negm {p y : Nat} (h : y < p) : (-(y : Int)) % (p : Int) = (((p - y) % p : Nat) : Int) := by
  rw [Int.natCast_emod, Int.natCast_sub (by omega), Int.sub_eq_add_neg, Int.add_comm, Int.add_emod_right]
section CRU
variable {q_l q_m q_h l q_b l_b M T mc ms : Nat} {m_size m_height pl pf : Int32} {m_loaded : Option Nat} {g_l g_m g_h : Nat → Int64} {g_b g_d : Nat → Int32} {U : List Nat} {a b p : Nat} {S i j : Nat} {minus : Bool}
theorem c_ratiop (hS : S < 4096) (hi : i < 12) (hj : j < 12) (hij : i < j) (hl1 : S < l) (hl2 : S ^^^ (2 ^ i ||| 2 ^ j) < l) (hl : l < 2 ^ 31) (hp : p < 2 ^ 31) (hp0 : 0 < p) (ha : a < p) (hb0 : b < p) (hA : g_l (S ^^^ (2 ^ i ||| 2 ^ j)) = nL a) (hB : g_l S = nL b) {w1 w2 w3 w4 w5 w6 w7 w8 w9 w10 w11 w12 : Int64} :
    pr_S (fun _ _ => True) (x_rtp p (minus ^^ x_cr S i j) a b) (fun mc ms post q_b l_b pl pf g_b g_d => ∀ Post : px_RT, (∀ w1 w2 w3 w4 w5 w6 w7 w8 w9 w10 w11 w12 q_b l_b pl pf g_b g_d, post q_b l_b pl pf g_b g_d → Post q_l q_m q_h l l l (nI p) m_size m_height m_loaded g_l g_m g_h w1 w2 w3 w4 w5 w6 w7 w8 w9 w10 w11 w12 q_b l_b pl pf g_b g_d) → w315_wp mc ms Post (nI S) (nI (2 ^ i ||| 2 ^ j)) (if minus = true then 1 else 0) q_l q_m q_h l l l (nI p) m_size m_height m_loaded g_l g_m g_h w1 w2 w3 w4 w5 w6 w7 w8 w9 w10 w11 w12 q_b l_b pl pf g_b g_d) := by
  intro mc ms post q_b l_b pl pf g_b g_d M T U hI hb hM h Post hP
  unfold w315_wp
  refine c_crosses hS hi hj hij (fun z60 e60 z61 e61 => ⟨fun z => absurd z (nI_ne0 hp0 hp), fun _ => ?_⟩)
  rw [b_x01] at e60
  rw [b_xor] at e61
  rw [e61, e60, nI_clamp (show S ^^^ (2 ^ i ||| 2 ^ j) < 2 ^ 31 by omega), nI_clamp (show S < 2 ^ 31 by omega), hA, hB]
  generalize hneg : (minus ^^ x_cr S i j) = neg at *
  have hc := x_invl (p := p) (b := b) hp0
  have hac : a * x_inv p b < 2 ^ 62 := Nat.lt_of_lt_of_le (Nat.mul_lt_mul_of_lt_of_lt (show a < 2 ^ 31 by omega) (show x_inv p b < 2 ^ 31 by omega)) (by decide)
  have hr : a * x_inv p b % p < p := Nat.mod_lt _ hp0
  have key : ¬ (nI p).toInt64 = 0 ∧ (∀ z127 : Int64, z127 = (nL a * nL (x_inv p b)) - (nL a * nL (x_inv p b)) / (nI p).toInt64 * (nI p).toInt64 → ((if neg = true then (1 : Int32) else 0) = 0 → w315_L70 mc ms Post (nI S) (nI (2 ^ i ||| 2 ^ j)) (if minus = true then 1 else 0) (if neg = true then 1 else 0) (nI (S ^^^ (2 ^ i ||| 2 ^ j))) z127 z127 q_l q_m q_h l l l (nI p) m_size m_height m_loaded g_l g_m g_h w1 w2 w3 w4 w5 w6 w7 w8 w9 w10 w11 w12 q_b l_b pl pf g_b g_d 0 0) ∧ (¬ (if neg = true then (1 : Int32) else 0) = 0 → (w242_wp (fun r62 => w315_L70 mc ms Post (nI S) (nI (2 ^ i ||| 2 ^ j)) (if minus = true then 1 else 0) (if neg = true then 1 else 0) (nI (S ^^^ (2 ^ i ||| 2 ^ j))) z127 r62 q_l q_m q_h l l l (nI p) m_size m_height m_loaded g_l g_m g_h w1 w2 w3 w4 w5 w6 w7 w8 w9 w10 w11 w12 q_b l_b pl pf g_b g_d 0 0) (-z127) (nI p).toInt64))) := by
    rw [nL_of hp, nL_mul]
    refine ⟨fun z => ?_, fun z127 e127 => ?_⟩
    · have := nL_inj (b := 0) (by omega) (by decide) z
      omega
    · rw [nL_modg (by omega) (by omega)] at e127
      have h70 : ∀ (v : Nat) (x4 x5 : Int32) (x7 : Int64), v < 2 ^ 63 → v = (if neg = true then (p - a * x_inv p b % p) % p else a * x_inv p b % p) → w315_L70 mc ms Post (nI S) (nI (2 ^ i ||| 2 ^ j)) x4 x5 (nI (S ^^^ (2 ^ i ||| 2 ^ j))) x7 (nL v) q_l q_m q_h l l l (nI p) m_size m_height m_loaded g_l g_m g_h w1 w2 w3 w4 w5 w6 w7 w8 w9 w10 w11 w12 q_b l_b pl pf g_b g_d 0 0 := by
        intro v x4 x5 x7 hv ev
        unfold w315_L70
        unfold x_rtp at hM h
        rw [← ev] at hM h
        exact c_sub (V := x_dg v) (P := fun mc ms post => w269_wp mc ms post (nL v)) (post := fun _ _ v43 v44 v45 v46 v47 v48 => Post q_l q_m q_h l l l (nI p) m_size m_height m_loaded g_l g_m g_h w1 w2 w3 w4 w5 w6 w7 w8 w9 w10 w11 w12 v43 v44 v45 v46 v47 v48) (c_num hv) hI hb hM (fun _ _ _ _ _ _ _ _ a _ _ => hP _ _ _ _ _ _ _ _ _ _ _ _ _ _ _ _ _ _ (h _ _ _ _ _ _ a trivial))
      refine ⟨fun z => ?_, fun z => ?_⟩
      · rw [e127]
        exact h70 _ _ _ _ (by omega) (by rw [(b_if01 neg).1 z]; rfl)
      · have hn : neg = true := by
          cases neg with
          | true => rfl
          | false => exact absurd ((b_if01 false).2 rfl) z
        rw [e127, iL_n, iL_neg, iL_n]
        refine c_fmod (by omega) (by omega) (by omega) (by omega) ?_
        have em : (-((a * x_inv p b % p : Nat) : Int)) % (p : Int) = (((p - a * x_inv p b % p) % p : Nat) : Int) := x_negm hr
        rw [em, ← iL_n, ← iL_n]
        have hlt : (p - a * x_inv p b % p) % p < p := Nat.mod_lt _ hp0
        exact h70 _ _ _ _ (by omega) (by rw [if_pos hn])
  refine ⟨b_in hl2 (by omega), b_in hl1 (by omega), c_inverse hp hp0 hb0 (fun c c1 c2 c3 c4 => ?_) (fun c4 => ?_)⟩
  · rw [x_inv1 c2 c3 c4] at key
    exact key
  · rw [x_inv0 c4] at key
    exact key
end CRU
