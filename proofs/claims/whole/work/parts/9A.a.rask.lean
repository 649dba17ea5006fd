/-! PURE, the reference: r, whole, isFree, isCircuit, isFlat, isOf -/
/-- the reference's ORDER and sizes -/
def r_T (go gs : Nat → Int32) : Prop := (∀ i, i < 4096 → go i = nI (x_or 12 i)) ∧ (∀ S, S < 4096 → gs S = nI (x_n S))
/-- letter m is a matroid -/
def r_D (ge gr gR : Nat → Int32) (m n r : Nat) (b : Nat → Bool) : Prop := m < 26 ∧ ge m = nI n ∧ gr m = nI r ∧ x_M n r b ∧ ∀ S, S < 2 ^ n → gR (4096 * m + S) = nI (x_rk b S)
section RAS
variable {ge gr gR go gs iv : Nat → Int32} {m n r : Nat} {b : Nat → Bool}
theorem r_Dn (h : r_D ge gr gR m n r b) : n ≤ 12 ∧ r ≤ n := by
  refine ⟨h.2.2.2.1.1, ?_⟩
  obtain ⟨B, hB⟩ := h.2.2.2.1.2.1
  have h1 := h.2.2.2.1.2.2.1 B hB
  have := x_nlen h.2.2.2.1.1 h1.1
  omega
theorem r_rank {post : Int32 → (Nat → Int32) → (Nat → Int32) → Prop} (hD : r_D ge gr gR m n r b) {S : Nat} (hS : S < 2 ^ n) (h : post (nI (x_rk b S)) iv gR) : w70_wp post (nI m) (nI S) iv gR := by
  have hp := b_p12 (r_Dn hD).1
  have hm := hD.1
  unfold w70_wp
  rw [show (4096 : Int32) = nI 4096 from rfl, pk_mul, nI_add, nI_clamp (by omega), hD.2.2.2.2 S hS]
  exact ⟨b_in (by omega) (by omega), h⟩
theorem r_whole {post : Int32 → (Nat → Int32) → (Nat → Int32) → Prop} (hD : r_D ge gr gR m n r b) (h : post (nI (2 ^ n - 1)) iv ge) : w71_wp post (nI m) iv ge := by
  have hn := (r_Dn hD).1
  have hm := hD.1
  have hp := Nat.two_pow_pos n
  unfold w71_wp
  rw [nI_clamp (by omega), hD.2.1, b_sh (by omega)]
  have := nI_subn (a := 2 ^ n) (b := 1) (by omega)
  rw [show nI (2 ^ n) - 1 = nI (2 ^ n) - nI 1 from rfl, this]
  exact ⟨b_in (by omega) (by omega), h⟩
theorem r_isFree {post : Int32 → (Nat → Int32) → (Nat → Int32) → (Nat → Int32) → Prop} (hD : r_D ge gr gR m n r b) (hT : r_T go gs) {S : Nat} (hS : S < 2 ^ n) (h : post (if decide (x_rk b S = x_n S) = true then 1 else 0) iv gR gs) : w72_wp post (nI m) (nI S) iv gR gs := by
  have hp := b_p12 (r_Dn hD).1
  have h1 := x_rkn (b := b) S
  have h2 := x_nle S
  refine r_rank hD hS ?_
  rw [nI_clamp (by omega), hT.2 S (by omega)]
  refine ⟨b_in (by omega) (by omega), fun w => ⟨rfl, ?_⟩, fun w => ⟨rfl, ?_⟩⟩
  · rw [decide_eq_false (fun k => w (by rw [k]))] at h; exact h
  · rw [decide_eq_true ((nI_eq (by omega) (by omega)).1 w)] at h; exact h
/-- the dual's rank -/
def x_dr (b : Nat → Bool) (n r S : Nat) : Nat := x_n S + x_rk b (x_co n S) - r
theorem x_dr0 (hb : x_M n r b) {S : Nat} (hS : S < 2 ^ n) : r ≤ x_n S + x_rk b (x_co n S) := by
  have hn := hb.1
  have h1 := w_cork hb _ (2 ^ n - 1) (x_co n S) rfl (fun i hi hbit => by
    rw [Nat.testBit_two_pow_sub_one]
    exact decide_eq_true ((x_cobS hS).1 hbit).1)
  rw [x_rkall hb (S := 2 ^ n - 1) (fun i hi => by rw [Nat.testBit_two_pow_sub_one]; exact decide_eq_true hi)] at h1
  have h2 : x_df (2 ^ n - 1) (x_co n S) = x_n S := by
    unfold x_df x_n
    refine x_cnc 12 (fun i hi => ?_)
    rw [Nat.testBit_two_pow_sub_one]
    by_cases q : i < n
    · rw [decide_eq_true q, x_cob q]; simp
    · rw [decide_eq_false q, Nat.testBit_lt_two_pow (Nat.lt_of_lt_of_le hS (Nat.pow_le_pow_right (by decide) (by omega)))]; rfl
  rw [h2] at h1
  omega
theorem r_dualRank {post : Int32 → (Nat → Int32) → (Nat → Int32) → (Nat → Int32) → (Nat → Int32) → (Nat → Int32) → Prop} (hD : r_D ge gr gR m n r b) (hT : r_T go gs) {S : Nat} (hS : S < 2 ^ n) (h : post (nI (x_dr b n r S)) iv ge gr gR gs) : w73_wp post (nI m) (nI S) iv ge gr gR gs := by
  have hn := (r_Dn hD).1
  have hp := b_p12 hn
  have hm := hD.1
  have h0 := x_dr0 hD.2.2.2.1 hS
  have h2 := x_nle S
  unfold w73_wp
  refine ⟨b_in (by omega) (by omega), b_in (by omega) (by omega), r_whole hD ?_⟩
  rw [b_coS hn hS, nI_clamp (show S < 2 ^ 31 by omega), nI_clamp (show m < 2 ^ 31 by omega), hT.2 S (by omega), hD.2.2.1]
  refine r_rank hD (x_col hS) ?_
  have e : nI (x_n S) - nI r + nI (x_rk b (x_co n S)) = nI (x_dr b n r S) := by
    unfold x_dr
    have := nI_subn h0
    rw [← this, ← nI_add]
    grind
  rw [e]
  exact h
/-- a circuit of ranks v -/
def x_cv2 (v : Nat → Nat) (n S : Nat) : Bool := decide (v S < x_n S) && decide (∀ e, e < n → S.testBit e = true → v (x_t S e) = x_n (x_t S e))
theorem x_tl2 {n S e : Nat} (hS : S < 2 ^ n) (he : e < n) : x_t S e < 2 ^ n := Nat.xor_lt_two_pow hS (Nat.pow_lt_pow_right (by decide) he)
theorem r_isCirc {post : Int32 → (Nat → Int32) → (Nat → Int32) → (Nat → Int32) → (Nat → Int32) → (Nat → Int32) → Prop} (hD : r_D ge gr gR m n r b) (hT : r_T go gs) {S : Nat} {du : Bool} {v : Nat → Nat} (hv : ∀ T, T < 2 ^ n → v T = if du = true then x_dr b n r T else x_rk b T) (hS : S < 2 ^ n) (h : post (if x_cv2 v n S = true then 1 else 0) iv ge gr gR gs) : w74_wp post (nI m) (nI S) (if du = true then 1 else 0) iv ge gr gR gs := by
  have hn := (r_Dn hD).1
  have hp := b_p12 hn
  have hm := hD.1
  have hvl : ∀ T, T < 2 ^ n → v T ≤ 24 := by
    intro T hT
    rw [hv T hT]
    have h1 := x_rkn (b := b) T
    have h2 := x_nle T
    have h3 := x_rkn (b := b) (x_co n T)
    have h4 := x_nle (x_co n T)
    unfold x_dr
    split <;> omega
  have fin : ∀ (x5 : Int32) (y : Int32), (y = 0 ∨ y = 1) → y = (if x_cv2 v n S = true then 1 else 0) → w74_L116 post (nI m) (nI S) (if du = true then 1 else 0) y x5 iv ge gr gR gs := by
    intro x5 y hy ey
    refine ⟨by rcases hy with q | q <;> rw [q] <;> rfl, ?_⟩
    rw [ey]; exact h
  have stop : ∀ (j e : Nat), e ≤ n → x_cv2 v n S = false → w74_L38 post (j + 1) (nI m) (nI S) (if du = true then 1 else 0) 0 (nI e) iv ge gr gR gs := by
    intro j e he hf
    refine ⟨b_in (by omega) (by omega), fun _ => fin _ 0 (Or.inl rfl) (by rw [hf]; rfl), fun _ => ⟨fun _ => fin _ 0 (Or.inl rfl) (by rw [hf]; rfl), fun k => absurd rfl k⟩⟩
  have main : v S < x_n S → ∀ (u e : Nat), e + u = n → (∀ e', e' < e → S.testBit e' = true → v (x_t S e') = x_n (x_t S e')) → w74_L38 post (u + 2) (nI m) (nI S) (if du = true then 1 else 0) 1 (nI e) iv ge gr gR gs := by
    intro h0 u
    induction u with
    | zero =>
      intro e he hall
      refine ⟨b_in (by omega) (by omega), fun _ => fin _ 1 (Or.inr rfl) ?_, fun w => ?_⟩
      · have : x_cv2 v n S = true := by
          unfold x_cv2
          rw [decide_eq_true h0, decide_eq_true (fun e' he' hb => hall e' (by omega) hb)]; rfl
        rw [this]; rfl
      · rw [nI_clamp (by omega), hD.2.1] at w
        exact absurd (nI_le (by omega) (by omega)) w
    | succ u ih =>
      intro e he hall
      have hxt := x_tl2 hS (show e < n by omega)
      have hxn := x_nle (x_t S e)
      have hvx := hvl _ hxt
      refine ⟨b_in (by omega) (by omega), fun w => ?_, fun _ => ⟨fun k => t_10 k, fun _ => ⟨fun w z ez => ?_, fun w z2 e2 => ?_⟩⟩⟩
      · rw [nI_clamp (by omega), hD.2.1] at w
        exact absurd w (nI_ge (by omega) (by omega))
      · rw [b_bit1 (by omega) (by omega)] at w
        rw [ez, nI_1]
        refine ih (e + 1) (by omega) (fun e' he' hb => ?_)
        by_cases q : e' = e
        · rw [q] at hb; exact absurd hb w
        · exact hall e' (by omega) hb
      · rw [b_bit1 (by omega) (by omega)] at w
        rw [b_sh (by omega), b_xor, show S ^^^ 2 ^ e = x_t S e from rfl] at e2
        rw [e2]
        have l93 : ∀ y : Int32, y = nI (v (x_t S e)) → w74_L93 (w74_L38 post (u + 2)) post (nI m) (nI S) (if du = true then 1 else 0) 1 (nI e) (nI (x_t S e)) y iv ge gr gR gs := by
          intro y ey
          unfold w74_L93
          rw [nI_clamp (by omega), hT.2 _ (by omega), ey]
          refine ⟨b_in (by omega) (by omega), fun w2 z ez => ?_, fun w2 z ez => ?_⟩
          · rw [ez, nI_1]
            refine stop (u + 1) (e + 1) (by omega) ?_
            unfold x_cv2
            have : ¬ ∀ e, e < n → S.testBit e = true → v (x_t S e) = x_n (x_t S e) := fun hh => w2 (by rw [hh e (by omega) w])
            rw [decide_eq_false this, Bool.and_false]
          · rw [ez, nI_1]
            refine ih (e + 1) (by omega) (fun e' he' hb => ?_)
            by_cases q : e' = e
            · rw [q]; exact (nI_eq (by omega) (by omega)).1 w2
            · exact hall e' (by omega) hb
        have hvx' := hv _ hxt
        cases du with
        | false =>
          refine ⟨fun _ => r_rank hD hxt (l93 _ (by rw [hvx', if_neg (by decide)])), fun k => absurd rfl k⟩
        | true =>
          refine ⟨fun k => t_10 k, fun _ => r_dualRank hD hT hxt (l93 _ (by rw [hvx', if_pos rfl]))⟩
  have l19 : ∀ y : Int32, y = nI (v S) → w74_L19 post (nI m) (nI S) (if du = true then 1 else 0) y iv ge gr gR gs := by
    intro y ey
    have hxn := x_nle S
    have hvx := hvl _ hS
    unfold w74_L19
    rw [nI_clamp (by omega), hT.2 _ (by omega), ey]
    refine ⟨b_in (by omega) (by omega), fun w => ⟨1, stop 0 0 (Nat.zero_le _) ?_⟩, fun w => ⟨n + 2, main ?_ n 0 (by omega) (fun e' he' => absurd he' (Nat.not_lt_zero e'))⟩⟩
    · have := (nI_leI (by omega) (by omega)).1 w
      unfold x_cv2
      rw [decide_eq_false (by omega)]; rfl
    · by_cases q : v S < x_n S
      · exact q
      · exact absurd (nI_le (by omega) (by omega)) w
  have hvS := hv S hS
  cases du with
  | false => exact ⟨fun _ => r_rank hD hS (l19 _ (by rw [hvS, if_neg (by decide)])), fun k => absurd rfl k⟩
  | true => exact ⟨fun k => t_10 k, fun _ => r_dualRank hD hT hS (l19 _ (by rw [hvS, if_pos rfl]))⟩
theorem x_alr {P : Nat → Bool} {n : Nat} : (List.range n).all P = true ↔ ∀ e, e < n → P e = true := by
  rw [List.all_eq_true]
  exact ⟨fun h e he => h e (List.mem_range.2 he), fun h e he => h e (List.mem_range.1 he)⟩
theorem x_ciE (hb : x_M n r b) {S : Nat} (hS : S < 2 ^ n) : x_cv2 (x_rk b) n S = x_ci b n S := by
  have hn := hb.1
  apply x_bool
  unfold x_cv2 x_ci
  rw [Bool.and_eq_true, Bool.and_eq_true, x_alr]
  constructor
  · intro ⟨h1, h2⟩
    have h1 := of_decide_eq_true h1
    have h2 := of_decide_eq_true h2
    have hne : ∃ e, e < n ∧ S.testBit e = true := by
      by_cases q : ∃ e, e < n ∧ S.testBit e = true
      · exact q
      · exfalso
        have : x_n S = 0 := x_cn0 12 (fun i hi => by
          by_cases w : i < n
          · cases hh : S.testBit i
            · rfl
            · exact absurd ⟨i, w, hh⟩ q
          · exact Nat.testBit_lt_two_pow (Nat.lt_of_lt_of_le hS (Nat.pow_le_pow_right (by decide) (by omega))))
        omega
    obtain ⟨e, he, hbe⟩ := hne
    have hx := x_nt1 (S := S) (by omega) hbe
    have h3 := h2 e he hbe
    have hm := x_rk0 hb (S := x_t S e) (e := e) (by omega) (by rw [x_tbs, hbe]; rfl)
    rw [x_tt] at hm
    refine ⟨decide_eq_true (by omega), fun e' he' => ?_⟩
    cases hb' : S.testBit e' with
    | false => rfl
    | true =>
      have hx' := x_nt1 (S := S) (e := e') (by omega) hb'
      have h3' := h2 e' he' hb'
      show (false || decide (x_rk b (x_t S e') + 1 = x_n S)) = true
      rw [Bool.false_or]
      exact decide_eq_true (by omega)
  · intro ⟨h1, h2⟩
    have h1 := of_decide_eq_true h1
    refine ⟨decide_eq_true (by omega), decide_eq_true (fun e he hbe => ?_)⟩
    have h3 := h2 e he
    rw [hbe] at h3
    have h4 : x_rk b (x_t S e) + 1 = x_n S := of_decide_eq_true (by simpa using h3)
    have hx := x_nt1 (S := S) (e := e) (by omega) hbe
    omega
theorem x_coE (hb : x_M n r b) {S : Nat} (hS : S < 2 ^ n) : x_cv2 (x_dr b n r) n S = (decide (x_rk b (x_co n S) + 1 = r) && x_fl b n (x_co n S)) := by
  have hn := hb.1
  have h0 := x_dr0 hb hS
  have hr := x_rkr hb (x_co n S)
  apply x_bool
  unfold x_cv2 x_fl
  rw [Bool.and_eq_true, Bool.and_eq_true, x_alr]
  have key : ∀ e, e < n → S.testBit e = true → (x_dr b n r (x_t S e) = x_n (x_t S e) ↔ x_rk b (x_t (x_co n S) e) = r) := by
    intro e he hbe
    have hx := x_nt1 (S := S) (e := e) (by omega) hbe
    have h1 := x_dr0 hb (x_tl2 hS he)
    unfold x_dr
    rw [x_cot] at h1 ⊢
    omega
  constructor
  · intro ⟨h1, h2⟩
    have h1 := of_decide_eq_true h1
    have h2 := of_decide_eq_true h2
    have h3 : x_rk b (x_co n S) < r := by
      unfold x_dr at h1
      omega
    have hne : ∃ e, e < n ∧ S.testBit e = true := by
      by_cases q : ∃ e, e < n ∧ S.testBit e = true
      · exact q
      · exfalso
        have : x_rk b (x_co n S) = r := x_rkall hb (fun i hi => by
          rw [x_cob hi]
          cases hh : S.testBit i
          · rfl
          · exact absurd ⟨i, hi, hh⟩ q)
        omega
    obtain ⟨e, he, hbe⟩ := hne
    have h4 := (key e he hbe).1 (h2 e he hbe)
    have h5 := x_rk1 hb (S := x_co n S) (e := e) (by omega) (by rw [x_cob he, hbe]; rfl)
    refine ⟨decide_eq_true (by omega), fun e' he' => ?_⟩
    rw [x_cob he']
    cases hb' : S.testBit e' with
    | false => rfl
    | true =>
      have h6 := (key e' he' hb').1 (h2 e' he' hb')
      show (false || decide (x_rk b (x_co n S) < x_rk b (x_t (x_co n S) e'))) = true
      rw [Bool.false_or]
      exact decide_eq_true (by omega)
  · intro ⟨h1, h2⟩
    have h1 := of_decide_eq_true h1
    refine ⟨decide_eq_true (by unfold x_dr; omega), decide_eq_true (fun e he hbe => (key e he hbe).2 ?_)⟩
    have h3 := h2 e he
    rw [x_cob he, hbe] at h3
    have h4 : x_rk b (x_co n S) < x_rk b (x_t (x_co n S) e) := of_decide_eq_true (by simpa using h3)
    have h5 := x_rkr hb (x_t (x_co n S) e)
    omega
theorem r_isFlat {post : Int32 → (Nat → Int32) → (Nat → Int32) → (Nat → Int32) → Prop} (hD : r_D ge gr gR m n r b) {S : Nat} (hS : S < 2 ^ n) (h : post (if x_fl b n S = true then 1 else 0) iv ge gR) : w75_wp post (nI m) (nI S) iv ge gR := by
  have hn := (r_Dn hD).1
  have hp := b_p12 hn
  have hm := hD.1
  have fin : ∀ (x5 : Int32) (y : Int32), (y = 0 ∨ y = 1) → y = (if x_fl b n S = true then 1 else 0) → w75_L62 post (nI m) (nI S) y x5 iv ge gR := by
    intro x5 y hy ey
    refine ⟨by rcases hy with q | q <;> rw [q] <;> rfl, ?_⟩
    rw [ey]; exact h
  have hfl : (∀ e, e < n → (S.testBit e || decide (x_rk b S < x_rk b (x_t S e))) = true) ↔ x_fl b n S = true := by
    unfold x_fl
    rw [x_alr]
  have stop : ∀ (j e : Nat), e ≤ n → x_fl b n S = false → w75_L5 post (j + 1) (nI m) (nI S) 0 (nI e) iv ge gR := by
    intro j e he hf
    refine ⟨b_in (by omega) (by omega), fun _ => fin _ 0 (Or.inl rfl) (by rw [hf]; rfl), fun _ => ⟨fun _ => fin _ 0 (Or.inl rfl) (by rw [hf]; rfl), fun k => absurd rfl k⟩⟩
  have main : ∀ (u e : Nat), e + u = n → (∀ e', e' < e → (S.testBit e' || decide (x_rk b S < x_rk b (x_t S e'))) = true) → w75_L5 post (u + 2) (nI m) (nI S) 1 (nI e) iv ge gR := by
    intro u
    induction u with
    | zero =>
      intro e he hall
      refine ⟨b_in (by omega) (by omega), fun _ => fin _ 1 (Or.inr rfl) ?_, fun w => ?_⟩
      · rw [hfl.1 (fun e' he' => hall e' (by omega))]; rfl
      · rw [nI_clamp (by omega), hD.2.1] at w
        exact absurd (nI_le (by omega) (by omega)) w
    | succ u ih =>
      intro e he hall
      refine ⟨b_in (by omega) (by omega), fun w => ?_, fun _ => ⟨fun k => t_10 k, fun _ => ⟨fun w z ez => ?_, fun w => ?_⟩⟩⟩
      · rw [nI_clamp (by omega), hD.2.1] at w
        exact absurd w (nI_ge (by omega) (by omega))
      · rw [b_bit1 (by omega) (by omega)] at w
        rw [ez, nI_1]
        refine ih (e + 1) (by omega) (fun e' he' => ?_)
        by_cases q : e' = e
        · rw [q, w]; rfl
        · exact hall e' (by omega)
      · rw [b_bit1 (by omega) (by omega)] at w
        have hbf : S.testBit e = false := by simpa using w
        have hxt := x_tl2 hS (show e < n by omega)
        have h1 := x_rkn (b := b) S
        have h2 := x_nle S
        have h3 := x_rkn (b := b) (x_t S e)
        have h4 := x_nle (x_t S e)
        rw [b_sh (by omega), b_or, b_ortf hbf]
        refine r_rank hD hxt (r_rank hD hS ⟨fun w2 z ez => ?_, fun w2 z ez => ?_⟩)
        · have hle := (nI_leI (by omega) (by omega)).1 w2
          rw [ez, nI_1]
          refine stop (u + 1) (e + 1) (by omega) ?_
          cases hh : x_fl b n S
          · rfl
          · have := hfl.2 hh e (by omega)
            rw [hbf, Bool.false_or] at this
            have := of_decide_eq_true this
            omega
        · have hlt : x_rk b S < x_rk b (x_t S e) := by
            by_cases q : x_rk b S < x_rk b (x_t S e)
            · exact q
            · exact absurd (nI_le (by omega) (by omega)) w2
          rw [ez, nI_1]
          refine ih (e + 1) (by omega) (fun e' he' => ?_)
          by_cases q : e' = e
          · rw [q, decide_eq_true hlt, Bool.or_true]
          · exact hall e' (by omega)
  exact ⟨n + 2, main n 0 (by omega) (fun e' he' => absurd he' (Nat.not_lt_zero e'))⟩
theorem r_isOf {post : Int32 → (Nat → Int32) → (Nat → Int32) → (Nat → Int32) → (Nat → Int32) → (Nat → Int32) → Prop} (hD : r_D ge gr gR m n r b) (hT : r_T go gs) {S kind : Nat} (hk : kind < 4) (hS : S < 2 ^ n) (h : post (if x_of b n r kind S = true then 1 else 0) iv ge gr gR gs) : w76_wp post (nI m) (nI kind) (nI S) iv ge gr gR gs := by
  have hn := (r_Dn hD).1
  have hp := b_p12 hn
  have hm := hD.1
  have hb := hD.2.2.2.1
  have nb : ∀ x : Bool, narrow .boolean (.int (if x = true then 1 else 0)) = .int (if x = true then 1 else 0) := by
    intro x
    cases x <;> rfl
  refine ⟨fun k0 => ⟨fun k3 => ⟨fun k2 => ?_, fun k2 => ?_⟩, fun k3 => ?_⟩, fun k0 => ?_⟩
  · have e1 : kind = 1 := by
      have a0 : kind ≠ 0 := fun q => k0 (by rw [q]; rfl)
      have a2 : kind ≠ 2 := fun q => k2 (by rw [q]; rfl)
      have a3 : kind ≠ 3 := fun q => k3 (by rw [q]; rfl)
      omega
    refine r_isCirc (du := false) (v := x_rk b) hD hT (fun _ _ => (if_neg (by decide)).symm) hS ⟨nb _, ?_⟩
    rw [x_ciE hb hS]
    rw [e1] at h
    exact h
  · have e1 : kind = 2 := (nI_eq (by omega) (by omega)).1 (k2.trans (show (2 : Int32) = nI 2 from rfl))
    refine r_isCirc (du := true) (v := x_dr b n r) hD hT (fun _ _ => (if_pos rfl).symm) hS ⟨nb _, ?_⟩
    rw [x_coE hb hS]
    rw [e1] at h
    exact h
  · have e1 : kind = 3 := (nI_eq (by omega) (by omega)).1 (k3.trans (show (3 : Int32) = nI 3 from rfl))
    refine r_isFlat hD hS ⟨nb _, ?_⟩
    rw [e1] at h
    exact h
  · have e1 : kind = 0 := (nI_eq (by omega) (by omega)).1 (k0.trans (show (0 : Int32) = nI 0 from rfl))
    rw [e1] at h
    have h : post (if b S = true then 1 else 0) iv ge gr gR gs := h
    have hr := (r_Dn hD).2
    have hxn := x_nle S
    rw [← w_gbb hb hS] at h
    unfold w_gb at h
    rw [nI_clamp (by omega), nI_clamp (by omega), hT.2 S (by omega), hD.2.2.1]
    refine ⟨b_in (by omega) (by omega), b_in (by omega) (by omega), fun w => ⟨rfl, ?_⟩, fun w => ?_⟩
    · rw [decide_eq_false (fun q => w (by rw [q]))] at h; exact h
    · have e2 : x_n S = r := (nI_eq (by omega) (by omega)).1 w
      rw [decide_eq_true e2, Bool.true_and] at h
      refine r_isFree hD hT hS ⟨fun w2 => ⟨rfl, ?_⟩, fun w2 => ⟨rfl, ?_⟩⟩
      · have : ¬ x_rk b S = x_n S := fun q => by rw [decide_eq_true q] at w2; exact t_10 w2
        rw [decide_eq_false (by omega)] at h; exact h
      · have : x_rk b S = x_n S := by
          by_cases q : x_rk b S = x_n S
          · exact q
          · rw [decide_eq_false q] at w2; exact absurd rfl w2
        rw [decide_eq_true (by omega)] at h; exact h
end RAS
