/-! PURE, the class: a part's source loaded, its ratios written -/
/-- the tables hold the minors of source z -/
def c_ld (sa : Nat → Nat) (sp sn sm : Nat → Nat) (sK : Nat → Nat → Nat → Int) (mf mz mh : Int32) (ml : Option Nat) (gl gm gh : Nat → Int64) (z : Nat) : Prop := ml = some (sa z) ∧ mf = nI (sp z) ∧ mz = nI (sn z) ∧ mh = nI (sm z) ∧ ∀ T, T < 2 ^ sn z → mn (x_za (sp z) (sn z) (sK z) (sm z) T) (gl T) (gm T) (gh T)
section CLD
variable {cm np ns z : Nat} {mm : Nat → px_MR} {pa sa : Nat → Nat} {pp : Nat → px_PR} {ss : Nat → px_SR} {sp sn sm : Nat → Nat} {sK : Nat → Nat → Nat → Int} {q_o l_o q : Nat} {o_r : Int32} {g_o g_t : Nat → Int32} {q_l q_m q_h l : Nat} {mf mz mh : Int32} {ml : Option Nat} {gl gm gh : Nat → Int64} {mc ms : Nat}
theorem c_load1 {post : Nat → Nat → Nat → Nat → Nat → Nat → Int32 → Int32 → Int32 → Option Nat → (Nat → Int64) → (Nat → Int64) → (Nat → Int64) → Nat → Nat → Int32 → (Nat → Int32) → (Nat → Int32) → (Nat → px_MR) → Prop} (hz : z < ns) (hSS : c_SS ns ss sp sn sm sK) (hMN : c_MN ns sa sp sn sm sK l mf mz mh ml gl gm gh) (ho : o_Ok l_o o_r g_o g_t q) (hq : sn z ≤ q)
    (h : ∀ q_l' q_m' q_h' mf' mz' mh' ml' gl' gm' gh' q_o' o' g' t', c_ld sa sp sn sm sK mf' mz' mh' ml' gl' gm' gh' z → o_Ok l_o o' g' t' q → post q_l' q_m' q_h' l l l mf' mz' mh' ml' gl' gm' gh' q_o' l_o o' g' t' mm) : w314p_wp z cm np ns pa sa pp ss mc ms post q_l q_m q_h l l l mf mz mh ml gl gm gh q_o l_o o_r g_o g_t mm := by
  obtain ⟨m1, m2, m3, m4, m5⟩ := hMN
  obtain ⟨hS, hp⟩ := hSS z hz
  obtain ⟨p1, p2⟩ := x_pmb hp
  have hl := m4 z hz
  have hlo := o_Okl ho hq
  refine c_loadp (q := q) hz hS ho m1 p1 (by omega) (by rw [if_pos hl, if_pos hlo]; exact Nat.zero_le _) (by rw [if_pos hl, if_pos hlo]; exact Nat.zero_le _) (fun e hinj => ?_) (fun q_l' q_m' q_h' gl' gm' gh' q_o' o' g' t' hT ho' => ?_)
  · obtain ⟨z', z1, z2, z3, z4, z5, z6⟩ := m5 _ e
    have ez := hinj z' z z1 hz z2
    subst ez
    rw [← e]
    exact h _ _ _ _ _ _ _ _ _ _ _ _ _ _ ⟨e, z3, z4, z5, z6⟩ ho
  · have e1 : max l (2 ^ sn z) = l := by omega
    have e2 : o_ln l_o (sn z) = l_o := by unfold o_ln; rw [if_pos hlo]
    have e3 : max q (sn z) = q := by omega
    rw [e2, e3] at ho'
    rw [e1, e2]
    exact h _ _ _ _ _ _ _ _ _ _ _ _ _ _ ⟨rfl, rfl, rfl, rfl, hT⟩ ho'
theorem c_ldMN (hz : z < ns) (hMN : c_MN ns sa sp sn sm sK l mf mz mh ml gl gm gh) {mf' mz' mh' : Int32} {ml' : Option Nat} {gl' gm' gh' : Nat → Int64} (h : c_ld sa sp sn sm sK mf' mz' mh' ml' gl' gm' gh' z) : c_MN ns sa sp sn sm sK l mf' mz' mh' ml' gl' gm' gh' := by
  obtain ⟨m1, m2, m3, m4, m5⟩ := hMN
  obtain ⟨h1, h2, h3, h4, h5⟩ := h
  refine ⟨m1, m2, m3, m4, fun c hc => ⟨z, hz, ?_, h2, h3, h4, h5⟩⟩
  rw [h1] at hc; cases hc; rfl
theorem x_swn {S i j : Nat} (hi : i < 12) (hj : j < 12) (hij : i ≠ j) (h : S.testBit i ≠ S.testBit j) : x_n (S ^^^ (2 ^ i ||| 2 ^ j)) = x_n S := by
  rw [x_orx2 hij]
  cases hb : S.testBit i with
  | true =>
    have hb2 : S.testBit j = false := by
      cases hq : S.testBit j with
      | false => rfl
      | true => exact absurd (by rw [hb, hq]) h
    have h1 := x_nt1 hi hb
    have h2 := x_nt0 (S := x_t S i) hj (by rw [x_tbn (fun e => hij e.symm)]; exact hb2)
    omega
  | false =>
    have hb2 : S.testBit j = true := by
      cases hq : S.testBit j with
      | true => rfl
      | false => exact absurd (by rw [hb, hq]) h
    have h1 := x_nt0 hi hb
    have h2 := x_nt1 (S := x_t S i) hj (by rw [x_tbn (fun e => hij e.symm)]; exact hb2)
    omega
/-- a ratio of two minors of the source that is loaded -/
theorem c_rat {S i j : Nat} {minus : Bool} (hp : x_pm (sp z)) (hS : c_SR (ss z) (sp z) (sn z) (sm z) (sK z)) (hl : 2 ^ sn z ≤ l) (hl2 : l ≤ 4096) (hld : c_ld sa sp sn sm sK mf mz mh ml gl gm gh z) (hSl : S < 2 ^ sn z) (hSn : x_n S = sm z) (hi : i < sn z) (hj : j < sn z) (hij : i ≠ j) (hb : S.testBit i ≠ S.testBit j) {w1 w2 w3 w4 w5 w6 w7 w8 w9 w10 w11 w12 : Int64} :
    pr_S (fun _ _ => True) (x_rat (sp z) (if (minus ^^ x_cs S i j) = true then - x_W (sK z) (sm z) (S ^^^ (2 ^ i ||| 2 ^ j)) else x_W (sK z) (sm z) (S ^^^ (2 ^ i ||| 2 ^ j))) (x_W (sK z) (sm z) S)) (fun mc ms post q_b l_b pl pf g_b g_d => ∀ Post : px_RT, (∀ w1 w2 w3 w4 w5 w6 w7 w8 w9 w10 w11 w12 q_b l_b pl pf g_b g_d, post q_b l_b pl pf g_b g_d → Post q_l q_m q_h l l l mf mz mh ml gl gm gh w1 w2 w3 w4 w5 w6 w7 w8 w9 w10 w11 w12 q_b l_b pl pf g_b g_d) → w315_wp mc ms Post (nI S) (nI (2 ^ i ||| 2 ^ j)) (if minus = true then 1 else 0) q_l q_m q_h l l l mf mz mh ml gl gm gh w1 w2 w3 w4 w5 w6 w7 w8 w9 w10 w11 w12 q_b l_b pl pf g_b g_d) := by
  obtain ⟨h1, h2, h3, h4, h5⟩ := hld
  obtain ⟨s1, s2, s3, s4, s5, s6, s7, s8, s9⟩ := hS
  have h12 : 2 ^ sn z ≤ 4096 := Nat.le_trans hl hl2
  obtain ⟨p1, p2⟩ := x_pmb hp
  have hTl : S ^^^ (2 ^ i ||| 2 ^ j) < 2 ^ sn z := Nat.xor_lt_two_pow hSl (Nat.or_lt_two_pow (Nat.pow_lt_pow_right (by decide) hi) (Nat.pow_lt_pow_right (by decide) hj))
  have hTn := x_swn (by omega) (by omega) hij hb
  have hpair : 2 ^ i ||| 2 ^ j = 2 ^ min i j ||| 2 ^ max i j := by
    rcases Nat.lt_or_ge i j with w | w
    · rw [Nat.min_eq_left (by omega), Nat.max_eq_right (by omega)]
    · rw [Nat.min_eq_right w, Nat.max_eq_left w, Nat.or_comm]
  have hcs : x_cs S i j = x_cr S (min i j) (max i j) := rfl
  have mS := h5 S hSl
  have mT := h5 _ hTl
  have zS : x_za (sp z) (sn z) (sK z) (sm z) S = x_md (sp z) (x_W (sK z) (sm z) S) := by
    unfold x_za
    rw [if_pos ⟨hSl, by omega⟩, hSn]
  have zT : x_za (sp z) (sn z) (sK z) (sm z) (S ^^^ (2 ^ i ||| 2 ^ j)) = x_md (sp z) (x_W (sK z) (sm z) (S ^^^ (2 ^ i ||| 2 ^ j))) := by
    unfold x_za
    rw [if_pos ⟨hTl, by omega⟩, hTn, hSn]
  have bS := x_zab (p := sp z) (h := sm z) s4 s8 (by omega) S
  have bT := x_zab (p := sp z) (h := sm z) s4 s8 (by omega) (S ^^^ (2 ^ i ||| 2 ^ j))
  rw [zS] at mS bS
  rw [zT] at mT bT
  have h143 : (2 : Nat) ^ 143 < 2 ^ 144 := by decide
  rw [hcs]
  rw [hpair] at mT bT hTl ⊢
  by_cases p0 : sp z = 0
  · rw [p0] at mS mT bS bT h2 ⊢
    rw [x_md0] at mS mT bS bT
    rw [h2, ← x_rtn]
    exact c_ratio0 (by omega) (by omega) (by omega) (by omega) (by omega) (by omega) (by omega) mT mS (by omega) (by omega)
  · rw [h2, ← x_rtpn p0]
    have hv : ∀ (w : Int) (lo mi hi : Int64), 0 ≤ w → w < sp z → mn w lo mi hi → lo = nL w.toNat := fun w lo mi hi w1 w2 hm => by
      rw [hm.1, show w % 2 ^ 48 = w by omega, iL_n, Int.toNat_of_nonneg w1]
    have cS := bS.2 p0
    have cT := bT.2 p0
    exact c_ratiop (by omega) (by omega) (by omega) (by omega) (by omega) (by omega) (by omega) (by omega) (by omega) (by omega) (by omega) (hv _ _ _ _ cT.1 cT.2 mT) (hv _ _ _ _ cS.1 cS.2 mS)
end CLD
