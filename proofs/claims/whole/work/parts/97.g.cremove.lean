/-! PURE, the class: Matroid: remove -/
def x_sre (m : Nat) (k : Nat → Nat) (U : Nat) (s : Nat → Int32) (T : Nat) : Int32 := if x_il (x_sd m k T) U = true then - s (x_sd m k T ||| U) else s (x_sd m k T ||| U)
theorem x_sdK {K m : Nat} {k : Nat → Nat} (h : x_kp K m k) {T e : Nat} (hb : (x_sd m k T).testBit e = true) : K.testBit e = true := by
  by_cases w : ∃ j, j < m ∧ k j = e
  · obtain ⟨j, hj, ej⟩ := w
    rw [← ej]; exact h.2.1 j hj
  · rw [x_sdo m (fun j hj ej => w ⟨j, hj, ej⟩)] at hb
    exact absurd hb (by decide)
theorem x_sdKl {K m n : Nat} {k : Nat → Nat} (hK : K < 2 ^ n) (h : x_kp K m k) (T : Nat) : x_sd m k T < 2 ^ n := by
  refine Nat.lt_pow_two_of_testBit _ (fun i hi => ?_)
  cases hb : (x_sd m k T).testBit i with
  | false => rfl
  | true =>
    have := x_sdK h hb
    rw [Nat.testBit_lt_two_pow (Nat.lt_of_lt_of_le hK (Nat.pow_le_pow_right (by decide) hi))] at this
    exact absurd this (by decide)
theorem b_coS {n S : Nat} (hn : n ≤ 12) (hS : S < 2 ^ n) : nI (2 ^ n - 1) &&& (nI S ^^^ (-1)) = nI (x_co n S) := by
  have hp := b_p12 hn
  rw [b_nand (by omega) (by omega)]
  congr 1
  unfold x_co
  congr 1
  rw [Nat.and_comm, Nat.and_two_pow_sub_one_eq_mod, Nat.mod_eq_of_lt hS]
theorem x_cobS {n S e : Nat} (hS : S < 2 ^ n) : (x_co n S).testBit e = true ↔ e < n ∧ S.testBit e = false := by
  by_cases w : e < n
  · rw [x_cob w]
    cases S.testBit e <;> simp [w]
  · rw [Nat.testBit_lt_two_pow (Nat.lt_of_lt_of_le (x_col hS) (Nat.pow_le_pow_right (by decide) (by omega)))]
    simp [w]
section CRE
variable {a0 cm np ns a1 : Nat} {pa sa : Nat → Nat} {pp : Nat → px_PR} {ss : Nat → px_SR} {mc ms : Nat} {q_o l_o : Nat} {o_r : Int32} {g_o g_t : Nat → Int32} {mm : Nat → px_MR} {n r q m K S U : Nat} {k : Nat → Nat} {post : Nat → Nat → Int32 → (Nat → Int32) → (Nat → Int32) → (Nat → px_MR) → Nat → (Nat → Nat) → (Nat → px_PR) → Prop}
theorem c_re47 {M : px_MR} {kc ks : Nat} {s : Nat → Int32} {x2 : Int32} (ha : a0 < cm) (ha1 : a1 < cm) (hne : a0 ≠ a1) (hn : n ≤ 12) (hm : m ≤ 12) (hr : r ≤ m) (hsz : M.2.1 13 = nI m) (hrk : M.2.1 14 = nI r) (hl : 2 ^ m ≤ M.2.2.1 6) (hl2 : M.2.2.1 6 < 2 ^ 31) (ho : o_Ok l_o o_r g_o g_t q) (hnq : m ≤ q) (hs : ∀ S, S < 2 ^ n → (mm a1).2.2.2.1 6 S = s S) (hs3 : ∀ S, S < 2 ^ n → c_s3 (s S)) (hl1 : 2 ^ n ≤ (mm a1).2.2.1 6) (hK : K < 2 ^ n) (hk : x_kp K m k) (hU : U < 2 ^ n) (hKU : ∀ e, U.testBit e = true → K.testBit e = false)
    (h : ∀ f, (∀ S, S < 2 ^ m → f S = x_tu (M.2.1 12) (x_f1 (x_sre m k U s) m r) (x_sre m k U s S)) → post q_o l_o o_r g_o g_t (va_up mm a0 (c_set M 6 f)) np pa pp) :
    ∀ (u j : Nat) (f : Nat → Int32), j + u = 2 ^ m → (∀ T, T < j → f T = x_sre m k U s T) → w264_L47 a0 cm ns sa ss a1 mc ms post (u + 1) x2 (nI U) (nI K) (nI (x_sd m k j)) (nI j) q_o l_o o_r g_o g_t (va_up mm a0 (c_set M 6 f)) np pa pp kc ks := by
  have hp := b_p12 hn
  have hpm := b_p12 hm
  have hp0 := Nat.two_pow_pos m
  have hor : ∀ T, x_sd m k T ||| U < 2 ^ n := fun T => Nat.or_lt_two_pow (x_sdKl hK hk T) hU
  intro u
  induction u with
  | zero =>
    intro j f hj hf
    refine ⟨ha, c_all (mm := va_up mm a0 (c_set M 6 f)) ha hm (by rw [va_up_self]; exact hsz) ⟨fun _ => ⟨ha, ?_⟩, fun w => absurd (nI_lt (show 2 ^ m - 1 < j by omega) (by omega)) w⟩⟩
    refine c_turnUp (M := c_set M 6 f) (s := x_sre m k U s) ha hm hr hsz hrk hl (fun S hS => ?_) (fun S hS => ?_) ho hnq (fun f' hf' => ?_)
    · show (va_up M.2.2.2.1 6 f) 6 S = _
      rw [va_up_self]; exact hf S (by omega)
    · unfold x_sre
      split
      · exact c_s3n (hs3 _ (hor S))
      · exact hs3 _ (hor S)
    · rw [c_ss]
      exact h f' hf'
  | succ u ih =>
    intro j f hj hf
    have hjl : j < 2 ^ m := by omega
    have e6 : ((va_up mm a0 (c_set M 6 f)) a0).2.2.1 6 = M.2.2.1 6 := by rw [va_up_self]; rfl
    have c6 : ((va_up mm a0 (c_set M 6 f)) a0).2.2.2.1 6 = f := c_atg
    have em : (va_up mm a0 (c_set M 6 f)) a1 = mm a1 := va_up_ne _ _ (fun k => hne k.symm)
    have fin : ∀ x7 y : Int32, vp_nar .byte y.toInt8.toInt32 = x_sre m k U s j → w264_L91 (w264_L47 a0 cm ns sa ss a1 mc ms post (u + 1)) a0 cm ns sa ss a1 mc ms post x2 (nI U) (nI K) (nI (x_sd m k j)) (nI j) x7 y (nI j) q_o l_o o_r g_o g_t (va_up mm a0 (c_set M 6 f)) np pa pp kc ks := by
      intro x7 y ey
      unfold w264_L91
      rw [e6, nI_clamp (show j < 2 ^ 31 by omega)]
      intro z1 e1
      refine ⟨ha, b_in (by omega) (by omega), fun mm2 e2 z3 e3 z4 e4 => ?_⟩
      rw [b_nx (by omega) hk] at e3
      rw [c_atu e2, c6, e3, e4, nI_1, e1, ey]
      refine ih (j + 1) _ (by omega) (fun S hS => ?_)
      by_cases w : S = j
      · rw [w, pk_us]
      · rw [pk_un w]; exact hf S (by omega)
    have e13 : ((va_up mm a0 (c_set M 6 f)) a0).2.1 13 = nI m := by rw [va_up_self]; exact hsz
    have hj' := hor j
    have hh := hs3 _ hj'
    refine ⟨ha, c_all (mm := va_up mm a0 (c_set M 6 f)) ha hm e13 ⟨fun w => absurd w (nI_nlt (by omega) (by omega)), fun _ => ⟨ha1, ha1, ?_⟩⟩⟩
    rw [b_or, em]
    refine ⟨b_in (by omega) (by omega), fun z19 e19 => ⟨ha, ha, ?_⟩⟩
    rw [nI_clamp (by omega), hs _ hj'] at e19
    refine c_il (x_sdl m hk.1) (by omega) (fun e he hb => ?_) ⟨fun w => ⟨rfl, fin _ _ ?_⟩, fun w => ⟨rfl, fin _ _ ?_⟩⟩
    · cases hb2 : (x_sd m k j).testBit e with
      | false => rfl
      | true =>
        have h1 := x_sdK hk hb2
        rw [hKU e hb] at h1
        exact absurd h1 (by decide)
    · rw [e19, c_s3b hh, x_sre, if_neg (fun w2 => by rw [if_pos w2] at w; exact absurd w (by decide))]
    · rw [e19, c_s3b (c_s3n hh), x_sre, if_pos (by cases hq : x_il (x_sd m k j) U with | true => rfl | false => rw [hq] at w; exact absurd rfl w)]
theorem c_remove {p : Int32} {s : Nat → Int32} {cc : Nat → Nat} {tb : Nat → Bool} (ha : a0 < cm) (ha1 : a1 < cm) (hne : a0 ≠ a1) (hn : n ≤ 12) (h12 : (mm a1).2.1 12 = p) (hsz : (mm a1).2.1 13 = nI n) (hrk : (mm a1).2.1 14 = nI r) (hl1 : 2 ^ n ≤ (mm a1).2.2.1 6) (hl0 : (mm a0).2.2.1 6 ≤ 4096) (ho : o_Ok l_o o_r g_o g_t q) (hs : ∀ S, S < 2 ^ n → (mm a1).2.2.2.1 6 S = s S) (hs3 : ∀ S, S < 2 ^ n → c_s3 (s S)) (hpok : px_pok cm np mm) (hPT : c_PT np pp (mm a1) n cc tb) (hS : S < 2 ^ n) (hU : U < 2 ^ n) (hUS : ∀ e, U.testBit e = true → S.testBit e = true) (hk : x_kp (x_co n S) m k) (hm : m = x_n (x_co n S)) (hr1 : x_n U ≤ r) (hr2 : r - x_n U ≤ m) (hr3 : r ≤ n) (hmc : c_bgc l_o (mm a0) m + m ≤ mc) (hms : c_bgs l_o (mm a0) m + 3 * m ≤ ms)
    (h : ∀ q' o' g t M' np' pa' pp' pt c f, o_Ok (o_ln l_o m) o' g t (max q m) → c_bgn (mm a0) M' p m (nI (r - x_n U)) → (∀ x, x < np → pa' x = pa x) → c_TP (mm a1).2.2.2.2.2 ((mm a1).2.2.2.1 2) (x_hd (mm a1).2.2.2.2.2 cc S U tb n) 0 k 0 np pp (mm a0).2.2.2.2.2 ((mm a0).2.2.2.1 2) m np' pp' pt c → (∀ T, T < 2 ^ m → f T = x_tu p (x_f1 (x_sre m k U s) m (r - x_n U)) (x_sre m k U s T)) → post q' (o_ln l_o m) o' g t (va_up mm a0 (c_set (c_pt M' c pt) 6 f)) np' pa' pp') :
    w264_wp a0 cm ns sa ss a1 mc ms post (nI S) (nI U) q_o l_o o_r g_o g_t mm np pa pp := by
  have hp := b_p12 hn
  have hm12 : m ≤ 12 := by rw [hm]; exact x_nle _
  have hpm := b_p12 hm12
  have hK : x_co n S < 2 ^ n := x_col hS
  unfold w264_wp
  refine ⟨ha1, c_all ha1 hn hsz (fun z34 e34 => ⟨ha1, ?_⟩)⟩
  rw [b_coS hn hS] at e34
  rw [e34]
  refine b_bc (by omega) ⟨ha1, b_bc (by omega) ?_⟩
  rw [h12, hrk, nI_subn hr1, ← hm]
  refine ⟨c_bgc l_o (mm a0) m, c_bgs l_o (mm a0) m, by omega, by omega, ha, c_begin ha hm12 ho (by omega) (Nat.le_refl _) (Nat.le_refl _) (fun q' o' g t M' ho' hM => ⟨m, 3 * m, by omega, by omega, ha, ?_⟩)⟩
  have em : (va_up mm a0 M') a1 = mm a1 := va_up_ne _ _ (fun k => hne k.symm)
  have e0 : (va_up mm a0 M') a0 = M' := va_up_self _ _ _
  obtain ⟨p1, p2, p3, p4⟩ := hPT
  have hM6 : M'.2.2.1 6 = max ((mm a0).2.2.1 6) (2 ^ m) := hM.2.2.2.2.2.2.1
  have hM2 : M'.2.2.2.1 2 = (mm a0).2.2.2.1 2 := hM.2.2.2.2.2.2.2.2.2.2.1 2 (by decide) (by decide) (by decide)
  have hM3 : M'.2.2.2.2 = (mm a0).2.2.2.2 := hM.2.2.2.2.2.2.2.2.2.2.2.1
  have hpok' : px_pok cm np (va_up mm a0 M') := by
    intro i hi e k hk
    by_cases w : i = a0
    · rw [w, va_up_self, hM3] at hk
      exact hpok a0 ha e k hk
    · rw [va_up_ne _ _ w] at hk
      exact hpok i hi e k hk
  refine c_takeParts (A := 0) (S := S) (U := U) (fl := false) (k := k) (m := m) (cc := cc) (tb := tb) (n := n) (mm := va_up mm a0 M') ha ha1 hne hn (by rw [em]; exact hsz) hpok' (by rw [em]; exact p1) p2 (by omega) (by omega) (by omega) (fun i hi => ((x_cobS hS).1 (hk.2.1 i hi)).1) hk.1.1 (fun e he => ⟨fun w => ?_, fun w => ?_⟩) (by rw [em]; exact p3) (by rw [em]; exact p4) (Nat.le_refl _) (Nat.le_refl _) (fun np' pa' pp' pt c h1 h2 => ⟨2 ^ m + 1, ?_⟩)
  · exact ⟨_, hk.2.2 e (by omega) ((x_cobS hS).2 ⟨he, w⟩)⟩
  · obtain ⟨i, hi, ei⟩ := w
    rw [← ei]
    exact ((x_cobS hS).1 (hk.2.1 i hi)).2
  · rw [em, e0, hM2, hM3] at h2
    rw [e0, b_upup]
    have := c_re47 (mm := mm) (M := c_pt M' c pt) (s := s) (n := n) (m := m) (r := r - x_n U) (q := max q m) (q_o := q') (l_o := o_ln l_o m) (o_r := o') (g_o := g) (g_t := t) (post := post) (mc := mc) (ms := ms) (kc := 0 + c_bgc l_o (mm a0) m + m) (ks := 0 + c_bgs l_o (mm a0) m + 3 * m) (sa := sa) (ss := ss) (ns := ns) (np := np') (pa := pa') (pp := pp') (K := x_co n S) (k := k) (U := U) (x2 := nI S) ha ha1 hne hn hm12 hr2 hM.2.1 hM.2.2.1 (by show 2 ^ m ≤ M'.2.2.1 6; omega) (by show M'.2.2.1 6 < 2 ^ 31; omega) ho' (Nat.le_max_right q m) hs hs3 hl1 hK hk hU (fun e he => ?_) (fun f hf => h q' o' g t M' np' pa' pp' pt c f ho' hM h1 h2 (fun S hS => by rw [hf S hS]; show x_tu (M'.2.1 12) _ _ = _; rw [hM.1])) (2 ^ m) 0 ((c_pt M' c pt).2.2.2.1 6) (by omega) (fun S hS => absurd hS (Nat.not_lt_zero S))
    · rw [c_self, x_sd0 hk.1] at this
      exact this
    · cases hb : (x_co n S).testBit e with
      | false => rfl
      | true =>
        have h1 := ((x_cobS hS).1 hb).2
        rw [hUS e he] at h1
        exact absurd h1 (by decide)
end CRE
