/-! PURE, the class: Matroid: interleavesOdd, turn -/
theorem x_cnsh (f : Nat → Bool) (e : Nat) : ∀ n, x_cn (e + n) (fun i => decide (e ≤ i) && f i) = x_cn n (fun i => f (e + i))
  | 0 => by
    show x_cn e (fun i => decide (e ≤ i) && f i) = 0
    have : ∀ m, m ≤ e → x_cn m (fun i => decide (e ≤ i) && f i) = 0 := by
      intro m
      induction m with
      | zero => intro _; rfl
      | succ m ih =>
        intro hm
        show x_cn m _ + (if (decide (e ≤ m) && f m) = true then 1 else 0) = 0
        rw [ih (by omega), decide_eq_false (by omega)]
        rfl
    exact this e (Nat.le_refl _)
  | n + 1 => by
    show x_cn (e + n) (fun i => decide (e ≤ i) && f i) + (if (decide (e ≤ e + n) && f (e + n)) = true then 1 else 0) = x_cn n (fun i => f (e + i)) + (if f (e + n) = true then 1 else 0)
    rw [x_cnsh f e n, decide_eq_true (by omega), Bool.true_and]
theorem x_cnhi (f : Nat → Bool) (h : ∀ i, 12 ≤ i → f i = false) : ∀ e, x_cn (12 + e) f = x_cn 12 f
  | 0 => rfl
  | e + 1 => by
    show x_cn (12 + e) f + (if f (12 + e) = true then 1 else 0) = _
    rw [x_cnhi f h e, h (12 + e) (by omega)]
    rfl
theorem x_nod {S e : Nat} (hS : S < 2 ^ 12) (h : S.testBit e = false) : x_n (S / 2 ^ e) % 2 = 1 ↔ x_od S e = true := by
  have hz : ∀ i, 12 ≤ i → S.testBit i = false := fun i hi => Nat.testBit_lt_two_pow (Nat.lt_of_lt_of_le hS (Nat.pow_le_pow_right (by decide) hi))
  have e1 : x_n (S / 2 ^ e) = x_cn 12 (fun i => S.testBit (e + i)) := by
    refine x_cnc 12 (fun i _ => ?_)
    rw [Nat.testBit_div_two_pow, Nat.add_comm]
  have e2 : x_cn 12 (fun i => S.testBit (e + i)) = x_cn 12 (fun i => decide (e < i) && S.testBit i) := by
    rw [← x_cnsh (fun i => S.testBit i) e 12, Nat.add_comm e 12, x_cnhi _ (fun i hi => by rw [hz i hi, Bool.and_false])]
    refine x_cnc 12 (fun i _ => ?_)
    by_cases w : i = e
    · rw [w, h, Bool.and_false, Bool.and_false]
    · rw [show decide (e ≤ i) = decide (e < i) from by congr 1; exact propext ⟨fun k => by omega, fun k => by omega⟩]
  rw [e1, e2]
  exact x_par 12
def x_ip (S U : Nat) : Nat → Nat
  | 0 => 0
  | k + 1 => x_ip S U k + (if U.testBit k = true then x_n (S / 2 ^ k) else 0)
theorem x_ipl (S U : Nat) : ∀ k, x_ip S U k ≤ 12 * k
  | 0 => Nat.le_refl _
  | k + 1 => by
    have := x_ipl S U k
    have h2 := x_nle (S / 2 ^ k)
    unfold x_ip
    split <;> omega
theorem x_ipp {S U : Nat} (hS : S < 2 ^ 12) (hd : ∀ e, e < 12 → U.testBit e = true → S.testBit e = false) : ∀ k, k ≤ 12 → (x_ip S U k % 2 = 1 ↔ x_xs k (fun u => U.testBit u && x_od S u) = true)
  | 0, _ => ⟨fun h => absurd (show 0 % 2 = 1 from h) (by decide), fun h => absurd (show false = true from h) (by decide)⟩
  | k + 1, hk => by
    have ih := x_ipp hS hd k (by omega)
    show (x_ip S U k + (if U.testBit k = true then x_n (S / 2 ^ k) else 0)) % 2 = 1 ↔ (x_xs k (fun u => U.testBit u && x_od S u) ^^ (U.testBit k && x_od S k)) = true
    generalize x_ip S U k = a at *
    generalize x_xs k (fun u => U.testBit u && x_od S u) = b at *
    by_cases w : U.testBit k = true
    · have h2 := x_nod hS (hd k (by omega) w)
      rw [if_pos w, w, Bool.true_and]
      generalize x_n (S / 2 ^ k) = c at *
      generalize x_od S k = d at *
      cases b <;> cases d <;> simp at ih h2 ⊢ <;> omega
    · rw [if_neg w]
      have : U.testBit k = false := by simpa using w
      rw [this, Bool.false_and, Bool.xor_false, Nat.add_zero]
      exact ih
section CIL
variable {a cm np ns : Nat} {pa sa : Nat → Nat} {pp : Nat → px_PR} {ss : Nat → px_SR} {q_o l_o : Nat} {o_r : Int32} {g_o g_t : Nat → Int32} {mm : Nat → px_MR} {post : Int32 → Nat → Nat → Int32 → (Nat → Int32) → (Nat → Int32) → (Nat → px_MR) → Prop} {S U : Nat}
theorem c_il (hS : S < 2 ^ 12) (hU : U < 2 ^ 12) (hd : ∀ e, e < 12 → U.testBit e = true → S.testBit e = false) (h : post (if x_il S U = true then 1 else 0) q_o l_o o_r g_o g_t mm) : w265_wp a cm np ns pa sa pp ss post (nI S) (nI U) q_o l_o o_r g_o g_t mm := by
  unfold w265_wp
  have main : ∀ (u k : Nat), k + u = 12 → w265_L5 a cm np ns pa sa pp ss post (u + 1) (nI S) (nI U) (nI (x_ip S U k)) (nI k) q_o l_o o_r g_o g_t mm := by
    intro u
    induction u with
    | zero =>
      intro k hk
      have hl := x_ipl S U k
      refine ⟨fun _ => ?_, fun w => absurd (nI_le (a := 12) (b := k) (by omega) (by omega)) w⟩
      rw [show k = 12 by omega] at *
      have hp := x_ipp hS hd 12 (Nat.le_refl _)
      have hil : x_il S U = x_xs 12 (fun u => U.testBit u && x_od S u) := rfl
      rw [← hil] at hp
      rw [b_odd _ (by omega), hp]
      refine ⟨fun w => ⟨rfl, ?_⟩, fun w => ⟨rfl, ?_⟩⟩
      · rw [if_neg w] at h; exact h
      · rw [if_pos (by cases hh : x_il S U with | true => rfl | false => exact absurd (by rw [hh]; decide) w)] at h; exact h
    | succ u ih =>
      intro k hk
      have ih := ih (k + 1) (by omega)
      have hl := x_ipl S U k
      refine ⟨fun w => absurd w (nI_ge (a := k) (b := 12) (by omega) (by omega)), fun _ => ⟨fun w z e => ?_, fun w => ?_⟩⟩
      · rw [b_bit0 (by omega) (by omega)] at w
        rw [e, nI_1]
        rw [show x_ip S U (k + 1) = x_ip S U k from by show _ + (if U.testBit k = true then x_n (S / 2 ^ k) else 0) = _; rw [w]; rfl] at ih
        exact ih
      · have hb : U.testBit k = true := by
          cases hh : U.testBit k with
          | true => rfl
          | false => exact absurd ((b_bit0 (by omega) (by omega)).2 hh) w
        rw [b_shr (by omega) (by omega)]
        refine b_bc (by exact Nat.lt_of_le_of_lt (Nat.div_le_self _ _) hS) (fun z3 e3 z e => ?_)
        rw [e, nI_1, e3, nI_add]
        rw [show x_ip S U (k + 1) = x_ip S U k + x_n (S / 2 ^ k) from by show _ + (if U.testBit k = true then x_n (S / 2 ^ k) else 0) = _; rw [if_pos hb]] at ih
        exact ih
  exact ⟨_, main 12 0 rfl⟩
end CIL
/-- columns and parts of a matroid: each element has a part, each part is a run -/
def c_PT (np : Nat) (pp : Nat → px_PR) (M : px_MR) (n : Nat) (cc : Nat → Nat) (tb : Nat → Bool) : Prop := (∀ e, e < n → M.2.2.2.1 2 e = nI (cc e) ∧ cc e < 12) ∧ (∀ x, x < np → (pp x).2.2 = if tb x = true then 1 else 0) ∧ (∀ e, e < n → ∃ x, M.2.2.2.2.2 e = some x) ∧ (∀ i i' i'', i < i' → i' < i'' → i'' < n → M.2.2.2.2.2 i = M.2.2.2.2.2 i'' → M.2.2.2.2.2 i' = M.2.2.2.2.2 i'')
def x_sdu (n : Nat) (s : Nat → Int32) (S : Nat) : Int32 := if x_oe S = true then - s (x_co n S) else s (x_co n S)
theorem nI_subn {a b : Nat} (h : b ≤ a) : nI a - nI b = nI (a - b) := by
  have := nI_add (a - b) b
  rw [show a - b + b = a by omega] at this
  rw [← this]
  exact Int32.add_sub_cancel _ _
section CTU
variable {a0 cm np ns a1 : Nat} {pa sa : Nat → Nat} {pp : Nat → px_PR} {ss : Nat → px_SR} {mc ms : Nat} {q_o l_o : Nat} {o_r : Int32} {g_o g_t : Nat → Int32} {mm : Nat → px_MR} {n r q : Nat} {post : Nat → Nat → Int32 → (Nat → Int32) → (Nat → Int32) → (Nat → px_MR) → Nat → (Nat → Nat) → (Nat → px_PR) → Prop}
theorem c_tu32 {M : px_MR} {kc ks : Nat} {s : Nat → Int32} (ha : a0 < cm) (ha1 : a1 < cm) (hne : a0 ≠ a1) (hn : n ≤ 12) (hr : r ≤ n) (hsz : M.2.1 13 = nI n) (hrk : M.2.1 14 = nI r) (hl : 2 ^ n ≤ M.2.2.1 6) (hl2 : M.2.2.1 6 < 2 ^ 31) (ho : o_Ok l_o o_r g_o g_t q) (hnq : n ≤ q) (hs : ∀ S, S < 2 ^ n → (mm a1).2.2.2.1 6 S = s S) (hs3 : ∀ S, S < 2 ^ n → c_s3 (s S)) (hl1 : 2 ^ n ≤ (mm a1).2.2.1 6)
    (h : ∀ f, (∀ S, S < 2 ^ n → f S = x_tu (M.2.1 12) (x_f1 (x_sdu n s) n r) (x_sdu n s S)) → post q_o l_o o_r g_o g_t (va_up mm a0 (c_set M 6 f)) np pa pp) :
    ∀ (u k : Nat) (f : Nat → Int32), k + u = 2 ^ n → (∀ S, S < k → f S = x_sdu n s S) → w258_L32 a0 cm ns sa ss a1 mc ms post (u + 1) (nI k) q_o l_o o_r g_o g_t (va_up mm a0 (c_set M 6 f)) np pa pp kc ks := by
  have hp := b_p12 hn
  have hp0 := Nat.two_pow_pos n
  intro u
  induction u with
  | zero =>
    intro k f hk hf
    refine ⟨ha, c_all (mm := va_up mm a0 (c_set M 6 f)) ha hn (by rw [va_up_self]; exact hsz) ⟨fun _ => ⟨ha, ?_⟩, fun w => absurd (nI_lt (show 2 ^ n - 1 < k by omega) (by omega)) w⟩⟩
    refine c_turnUp (M := c_set M 6 f) (s := x_sdu n s) ha hn hr hsz hrk hl (fun S hS => ?_) (fun S hS => ?_) ho hnq (fun f' hf' => ?_)
    · show (va_up M.2.2.2.1 6 f) 6 S = _
      rw [va_up_self]; exact hf S (by omega)
    · unfold x_sdu
      split
      · exact c_s3n (hs3 _ (x_col hS))
      · exact hs3 _ (x_col hS)
    · rw [c_ss]
      exact h f' hf'
  | succ u ih =>
    intro k f hk hf
    have hkl : k < 2 ^ n := by omega
    have e6 : ((va_up mm a0 (c_set M 6 f)) a0).2.2.1 6 = M.2.2.1 6 := by rw [va_up_self]; rfl
    have c6 : ((va_up mm a0 (c_set M 6 f)) a0).2.2.2.1 6 = f := c_atg
    have em : (va_up mm a0 (c_set M 6 f)) a1 = mm a1 := va_up_ne _ _ (fun k => hne k.symm)
    have hco := x_col (n := n) hkl
    have fin : ∀ x3 x4 y : Int32, vp_nar .byte y.toInt8.toInt32 = x_sdu n s k → w258_L88 (w258_L32 a0 cm ns sa ss a1 mc ms post (u + 1)) a0 cm ns sa ss a1 mc ms post (nI k) x3 x4 y (nI k) q_o l_o o_r g_o g_t (va_up mm a0 (c_set M 6 f)) np pa pp kc ks := by
      intro x3 x4 y ey
      unfold w258_L88
      rw [e6, nI_clamp (show k < 2 ^ 31 by omega)]
      intro z1 e1
      refine ⟨ha, b_in (by omega) (by omega), fun mm2 e2 z3 e3 => ?_⟩
      rw [c_atu e2, c6, e3, nI_1, e1, ey]
      refine ih (k + 1) _ (by omega) (fun S hS => ?_)
      by_cases w : S = k
      · rw [w, pk_us]
      · rw [pk_un w]; exact hf S (by omega)
    have e13 : ((va_up mm a0 (c_set M 6 f)) a0).2.1 13 = nI n := by rw [va_up_self]; exact hsz
    refine ⟨ha, c_all (mm := va_up mm a0 (c_set M 6 f)) ha hn e13 ⟨fun w => absurd w (nI_nlt (by omega) (by omega)), fun _ => ⟨ha1, ha, c_all (mm := va_up mm a0 (c_set M 6 f)) ha hn e13 ⟨rfl, ha1, ?_⟩⟩⟩⟩
    rw [b_xor, em]
    refine ⟨b_in (by exact Nat.lt_of_lt_of_le hco hl1) (by exact Nat.lt_of_lt_of_le hco (by omega)), fun z25 e25 => ?_⟩
    rw [nI_clamp (by exact Nat.lt_of_lt_of_le hco (by omega)), show (2 ^ n - 1) ^^^ k = x_co n k from rfl, hs _ hco] at e25
    rw [show (2730 : Int32) = nI 2730 from rfl, b_and]
    refine b_bc (Nat.lt_of_le_of_lt Nat.and_le_left (by omega)) ?_
    rw [b_oe k]
    have hh := hs3 _ hco
    refine ⟨fun w => ⟨ha, fun _ => fin _ _ _ ?_, fun w2 => absurd rfl w2⟩, fun w => ⟨ha, fun w2 => absurd w2 (by decide), fun _ => fin _ _ _ ?_⟩⟩
    · rw [e25, c_s3b hh, x_sdu, if_neg (by rw [w]; decide)]
    · rw [e25, c_s3b (c_s3n hh), x_sdu, if_pos (by cases hq : x_oe k with | true => rfl | false => exact absurd hq w)]
theorem c_turn {p : Int32} {s : Nat → Int32} {cc : Nat → Nat} {tb : Nat → Bool} (ha : a0 < cm) (ha1 : a1 < cm) (hne : a0 ≠ a1) (hn : n ≤ 12) (hr : r ≤ n) (h12 : (mm a1).2.1 12 = p) (hsz : (mm a1).2.1 13 = nI n) (hrk : (mm a1).2.1 14 = nI r) (hl1 : 2 ^ n ≤ (mm a1).2.2.1 6) (hl0 : (mm a0).2.2.1 6 ≤ 4096) (ho : o_Ok l_o o_r g_o g_t q) (hs : ∀ S, S < 2 ^ n → (mm a1).2.2.2.1 6 S = s S) (hs3 : ∀ S, S < 2 ^ n → c_s3 (s S)) (hpok : px_pok cm np mm) (hPT : c_PT np pp (mm a1) n cc tb) (hmc : c_bgc l_o (mm a0) n + n ≤ mc) (hms : c_bgs l_o (mm a0) n + 3 * n ≤ ms)
    (h : ∀ q' o' g t M' np' pa' pp' pt c f, o_Ok (o_ln l_o n) o' g t (max q n) → c_bgn (mm a0) M' p n (nI (n - r)) → (∀ x, x < np → pa' x = pa x) → c_TP (mm a1).2.2.2.2.2 ((mm a1).2.2.2.1 2) (x_hd (mm a1).2.2.2.2.2 cc 0 0 tb n) 1 (fun i => i) 0 np pp (mm a0).2.2.2.2.2 ((mm a0).2.2.2.1 2) n np' pp' pt c → (∀ S, S < 2 ^ n → f S = x_tu p (x_f1 (x_sdu n s) n (n - r)) (x_sdu n s S)) → post q' (o_ln l_o n) o' g t (va_up mm a0 (c_set (c_pt M' c pt) 6 f)) np' pa' pp') :
    w258_wp a0 cm ns sa ss a1 mc ms post q_o l_o o_r g_o g_t mm np pa pp := by
  have hp := b_p12 hn
  unfold w258_wp
  rw [h12, hsz, hrk, nI_subn hr]
  refine ⟨ha1, ha1, ha1, ha1, c_bgc l_o (mm a0) n, c_bgs l_o (mm a0) n, by omega, by omega, ha, c_begin ha hn ho (by omega) (Nat.le_refl _) (Nat.le_refl _) (fun q' o' g t M' ho' hM => ⟨n, 3 * n, by omega, by omega, ha, ?_⟩)⟩
  have em : (va_up mm a0 M') a1 = mm a1 := va_up_ne _ _ (fun k => hne k.symm)
  have e0 : (va_up mm a0 M') a0 = M' := va_up_self _ _ _
  obtain ⟨p1, p2, p3, p4⟩ := hPT
  have hM6 : M'.2.2.1 6 = max ((mm a0).2.2.1 6) (2 ^ n) := hM.2.2.2.2.2.2.1
  have hM2 : M'.2.2.2.1 2 = (mm a0).2.2.2.1 2 := hM.2.2.2.2.2.2.2.2.2.2.1 2 (by decide) (by decide) (by decide)
  have hM3 : M'.2.2.2.2 = (mm a0).2.2.2.2 := hM.2.2.2.2.2.2.2.2.2.2.2.1
  have hpok' : px_pok cm np (va_up mm a0 M') := by
    intro i hi e k hk
    by_cases w : i = a0
    · rw [w, va_up_self, hM3] at hk
      exact hpok a0 ha e k hk
    · rw [va_up_ne _ _ w] at hk
      exact hpok i hi e k hk
  refine c_takeParts (A := 0) (S := 0) (U := 0) (fl := true) (k := fun i => i) (m := n) (cc := cc) (tb := tb) (n := n) (mm := va_up mm a0 M') ha ha1 hne hn (by rw [em]; exact hsz) hpok' (by rw [em]; exact p1) p2 (by decide) (by decide) (by omega) (fun i hi => hi) (fun i i' h1 _ => h1) (fun e he => ⟨fun _ => ⟨e, he, rfl⟩, fun _ => Nat.zero_testBit e⟩) (by rw [em]; exact p3) (by rw [em]; exact p4) (Nat.le_refl _) (Nat.le_refl _) (fun np' pa' pp' pt c h1 h2 => ⟨2 ^ n + 1, ?_⟩)
  rw [em, e0, hM2, hM3] at h2
  rw [e0, b_upup]
  have := c_tu32 (mm := mm) (M := c_pt M' c pt) (s := s) (n := n) (r := n - r) (q := max q n) (q_o := q') (l_o := o_ln l_o n) (o_r := o') (g_o := g) (g_t := t) (post := post) (mc := mc) (ms := ms) (kc := 0 + c_bgc l_o (mm a0) n + n) (ks := 0 + c_bgs l_o (mm a0) n + 3 * n) (sa := sa) (ss := ss) (ns := ns) (np := np') (pa := pa') (pp := pp') ha ha1 hne hn (by omega) hM.2.1 hM.2.2.1 (by show 2 ^ n ≤ M'.2.2.1 6; omega) (by show M'.2.2.1 6 < 2 ^ 31; omega) ho' (Nat.le_max_right q n) hs hs3 hl1 (fun f hf => h q' o' g t M' np' pa' pp' pt c f ho' hM h1 h2 (fun S hS => by rw [hf S hS]; show x_tu (M'.2.1 12) _ _ = _; rw [hM.1])) (2 ^ n) 0 ((c_pt M' c pt).2.2.2.1 6) (by omega) (fun S hS => absurd hS (Nat.not_lt_zero S))
  rw [c_self] at this
  exact this
end CTU
