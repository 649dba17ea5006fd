/-! PURE, the class: Matroid: join, repeat -/
def x_sjo (n : Nat) (s t : Nat → Int32) (S : Nat) : Int32 := s (S % 2 ^ n) * t (S / 2 ^ n)
section CJO
variable {a0 cm np ns a1 a2 : Nat} {pa sa : Nat → Nat} {pp : Nat → px_PR} {ss : Nat → px_SR} {mc ms : Nat} {q_o l_o : Nat} {o_r : Int32} {g_o g_t : Nat → Int32} {mm : Nat → px_MR} {n r q n2 r2 : Nat} {post : Nat → Nat → Int32 → (Nat → Int32) → (Nat → Int32) → (Nat → px_MR) → Nat → (Nat → Nat) → (Nat → px_PR) → Prop}
theorem c_jo49 {M : px_MR} {kc ks : Nat} {s t : Nat → Int32} (ha : a0 < cm) (ha1 : a1 < cm) (ha2 : a2 < cm) (hne : a0 ≠ a1) (hne2 : a0 ≠ a2) (hn : n + n2 ≤ 12) (hsz : M.2.1 13 = nI (n + n2)) (hl : 2 ^ (n + n2) ≤ M.2.2.1 6) (hl2 : M.2.2.1 6 < 2 ^ 31) (hz1 : (mm a1).2.1 13 = nI n) (hs : ∀ S, S < 2 ^ n → (mm a1).2.2.2.1 6 S = s S) (hs3 : ∀ S, S < 2 ^ n → c_s3 (s S)) (hl1 : 2 ^ n ≤ (mm a1).2.2.1 6) (ht : ∀ S, S < 2 ^ n2 → (mm a2).2.2.2.1 6 S = t S) (ht3 : ∀ S, S < 2 ^ n2 → c_s3 (t S)) (hl2' : 2 ^ n2 ≤ (mm a2).2.2.1 6)
    (h : ∀ f, (∀ S, S < 2 ^ (n + n2) → f S = x_sjo n s t S) → post q_o l_o o_r g_o g_t (va_up mm a0 (c_set M 6 f)) np pa pp) :
    ∀ (u k : Nat) (f : Nat → Int32), k + u = 2 ^ (n + n2) → (∀ S, S < k → f S = x_sjo n s t S) → w267_L49 a0 cm ns sa ss a1 a2 mc ms post (u + 1) (nI k) q_o l_o o_r g_o g_t (va_up mm a0 (c_set M 6 f)) np pa pp kc ks := by
  have hp := b_p12 hn
  have hp1 := b_p12 (show n ≤ 12 by omega)
  have hp0 := Nat.two_pow_pos (n + n2)
  have hpn := Nat.two_pow_pos n
  intro u
  induction u with
  | zero =>
    intro k f hk hf
    refine ⟨ha, c_all (mm := va_up mm a0 (c_set M 6 f)) ha hn (by rw [va_up_self]; exact hsz) ⟨fun _ => h f (fun S hS => hf S (by omega)), fun w => absurd (nI_lt (show 2 ^ (n + n2) - 1 < k by omega) (by omega)) w⟩⟩
  | succ u ih =>
    intro k f hk hf
    have hkl : k < 2 ^ (n + n2) := by omega
    have e6 : ((va_up mm a0 (c_set M 6 f)) a0).2.2.1 6 = M.2.2.1 6 := by rw [va_up_self]; rfl
    have c6 : ((va_up mm a0 (c_set M 6 f)) a0).2.2.2.1 6 = f := c_atg
    have em : (va_up mm a0 (c_set M 6 f)) a1 = mm a1 := va_up_ne _ _ (fun k => hne k.symm)
    have em2 : (va_up mm a0 (c_set M 6 f)) a2 = mm a2 := va_up_ne _ _ (fun k => hne2 k.symm)
    have e13 : ((va_up mm a0 (c_set M 6 f)) a0).2.1 13 = nI (n + n2) := by rw [va_up_self]; exact hsz
    have h1 : k % 2 ^ n < 2 ^ n := Nat.mod_lt _ hpn
    have h2 : k / 2 ^ n < 2 ^ n2 := by
      rw [Nat.pow_add] at hkl
      exact Nat.div_lt_of_lt_mul hkl
    have h2' := b_p12 (show n2 ≤ 12 by omega)
    refine ⟨ha, c_all (mm := va_up mm a0 (c_set M 6 f)) ha hn e13 ⟨fun w => absurd w (nI_nlt (by omega) (by omega)), fun _ => ⟨ha, ha1, ha1, c_all (n := n) (mm := va_up mm a0 (c_set M 6 f)) ha1 (by omega) (by rw [em]; exact hz1) ⟨rfl, ha1, ?_⟩⟩⟩⟩
    rw [em, em2, hz1, b_and, Nat.and_two_pow_sub_one_eq_mod, b_shr (by omega) (by omega), nI_clamp (show k % 2 ^ n < 2 ^ 31 by omega), nI_clamp (show k / 2 ^ n < 2 ^ 31 by omega), hs _ h1, ht _ h2]
    refine ⟨b_in (by omega) (by omega), ha2, ha1, ha2, b_in (by omega) (by omega), fun z15 e15 => ⟨rfl, ha, ?_⟩⟩
    rw [e6, nI_clamp (show k < 2 ^ 31 by omega)]
    refine ⟨b_in (by omega) (by omega), fun mm16 e16 z17 e17 => ?_⟩
    rw [c_atu e16, c6, e17, nI_1, e15, c_s3b (c_s3m (hs3 _ h1) (ht3 _ h2))]
    refine ih (k + 1) _ (by omega) (fun S hS => ?_)
    by_cases w : S = k
    · rw [w, pk_us]; rfl
    · rw [pk_un w]; exact hf S (by omega)
theorem c_join {p : Int32} {s t : Nat → Int32} {cc cc2 : Nat → Nat} {tb tb2 : Nat → Bool} (ha : a0 < cm) (ha1 : a1 < cm) (ha2 : a2 < cm) (hne : a0 ≠ a1) (hne2 : a0 ≠ a2) (hn : n + n2 ≤ 12) (h12 : (mm a1).2.1 12 = p) (hz1 : (mm a1).2.1 13 = nI n) (hr1 : (mm a1).2.1 14 = nI r) (hz2 : (mm a2).2.1 13 = nI n2) (hr2 : (mm a2).2.1 14 = nI r2) (hl1 : 2 ^ n ≤ (mm a1).2.2.1 6) (hl2 : 2 ^ n2 ≤ (mm a2).2.2.1 6) (hl0 : (mm a0).2.2.1 6 ≤ 4096) (ho : o_Ok l_o o_r g_o g_t q) (hs : ∀ S, S < 2 ^ n → (mm a1).2.2.2.1 6 S = s S) (hs3 : ∀ S, S < 2 ^ n → c_s3 (s S)) (ht : ∀ S, S < 2 ^ n2 → (mm a2).2.2.2.1 6 S = t S) (ht3 : ∀ S, S < 2 ^ n2 → c_s3 (t S)) (hpok : px_pok cm np mm) (hPT : c_PT np pp (mm a1) n cc tb) (hPT2 : c_PT np pp (mm a2) n2 cc2 tb2) (hmc : c_bgc l_o (mm a0) (n + n2) + (n + n2) ≤ mc) (hms : c_bgs l_o (mm a0) (n + n2) + 3 * (n + n2) ≤ ms)
    (h : ∀ q' o' g t' M' np1 pp1 pt1 c1 np' pa' pp' pt c tb3 f, o_Ok (o_ln l_o (n + n2)) o' g t' (max q (n + n2)) → c_bgn (mm a0) M' p (n + n2) (nI (r + r2)) → (∀ x, x < np → pa' x = pa x) → c_TP (mm a1).2.2.2.2.2 ((mm a1).2.2.2.1 2) (x_hd (mm a1).2.2.2.2.2 cc 0 0 tb n) 0 (fun i => i) 0 np pp (mm a0).2.2.2.2.2 ((mm a0).2.2.2.1 2) n np1 pp1 pt1 c1 → c_TP (mm a2).2.2.2.2.2 ((mm a2).2.2.2.1 2) (x_hd (mm a2).2.2.2.2.2 cc2 0 0 tb3 n2) 0 (fun i => i) n np1 pp1 pt1 c1 n2 np' pp' pt c → (∀ S, S < 2 ^ (n + n2) → f S = x_sjo n s t S) → post q' (o_ln l_o (n + n2)) o' g t' (va_up mm a0 (c_set (c_pt M' c pt) 6 f)) np' pa' pp') :
    w267_wp a0 cm ns sa ss a1 a2 mc ms post q_o l_o o_r g_o g_t mm np pa pp := by
  have hp := b_p12 hn
  unfold w267_wp
  rw [h12, hz1, hr1, hz2, hr2, nI_add, nI_add]
  refine ⟨ha1, ha1, ha2, ha1, ha2, c_bgc l_o (mm a0) (n + n2), c_bgs l_o (mm a0) (n + n2), by omega, by omega, ha, c_begin ha hn ho (by omega) (Nat.le_refl _) (Nat.le_refl _) (fun q' o' g t' M' ho' hM => ⟨n, 3 * n, by omega, by omega, ha, ?_⟩)⟩
  have em : (va_up mm a0 M') a1 = mm a1 := va_up_ne _ _ (fun k => hne k.symm)
  have e0 : (va_up mm a0 M') a0 = M' := va_up_self _ _ _
  obtain ⟨p1, p2, p3, p4⟩ := hPT
  obtain ⟨u1, u2, u3, u4⟩ := hPT2
  have hM6 : M'.2.2.1 6 = max ((mm a0).2.2.1 6) (2 ^ (n + n2)) := hM.2.2.2.2.2.2.1
  have hM2 : M'.2.2.2.1 2 = (mm a0).2.2.2.1 2 := hM.2.2.2.2.2.2.2.2.2.2.1 2 (by decide) (by decide) (by decide)
  have hM3 : M'.2.2.2.2 = (mm a0).2.2.2.2 := hM.2.2.2.2.2.2.2.2.2.2.2.1
  have hpok' : px_pok cm np (va_up mm a0 M') := by
    intro i hi e k hk
    by_cases w : i = a0
    · rw [w, va_up_self, hM3] at hk
      exact hpok a0 ha e k hk
    · rw [va_up_ne _ _ w] at hk
      exact hpok i hi e k hk
  refine c_takeParts (A := 0) (S := 0) (U := 0) (fl := false) (k := fun i => i) (m := n) (cc := cc) (tb := tb) (n := n) (mm := va_up mm a0 M') ha ha1 hne (by omega) (by rw [em]; exact hz1) hpok' (by rw [em]; exact p1) p2 (by decide) (by decide) (by omega) (fun i hi => hi) (fun i i' h1 _ => h1) (fun e he => ⟨fun _ => ⟨e, he, rfl⟩, fun _ => Nat.zero_testBit e⟩) (by rw [em]; exact p3) (by rw [em]; exact p4) (Nat.le_refl _) (Nat.le_refl _) (fun np1 pa1 pp1 pt1 c1 h1 h2 => ⟨ha1, n2, 3 * n2, by omega, by omega, ha, ?_⟩)
  rw [em, e0, hM2, hM3] at h2
  rw [e0, b_upup]
  have em1 : (va_up mm a0 (c_pt M' c1 pt1)) a1 = mm a1 := va_up_ne _ _ (fun k => hne k.symm)
  have em2 : (va_up mm a0 (c_pt M' c1 pt1)) a2 = mm a2 := va_up_ne _ _ (fun k => hne2 k.symm)
  have e02 : (va_up mm a0 (c_pt M' c1 pt1)) a0 = c_pt M' c1 pt1 := va_up_self _ _ _
  have hlo := h2.lo
  have hpok2 : px_pok cm np1 (va_up mm a0 (c_pt M' c1 pt1)) := by
    intro i hi x y hxy
    by_cases w : i = a0
    · rw [w, va_up_self] at hxy
      have hxy : pt1 x = some y := hxy
      by_cases w2 : 0 ≤ x ∧ x < 0 + n
      · obtain ⟨a', b, h1, h22, h3, h4, h5, h6⟩ := h2.prt x (by omega)
        rw [Nat.zero_add, hxy] at h3
        cases h3
        exact h5
      · rw [h2.pout x (by omega)] at hxy
        exact Nat.lt_of_lt_of_le (hpok a0 ha x y hxy) hlo
    · rw [va_up_ne _ _ w] at hxy
      exact Nat.lt_of_lt_of_le (hpok i hi x y hxy) hlo
  have hbit : ∀ x, x < np1 → (pp1 x).2.2 = if decide ((pp1 x).2.2 = 1) = true then 1 else 0 := by
    intro x hx
    have : (pp1 x).2.2 = 0 ∨ (pp1 x).2.2 = 1 := by
      by_cases w : x < np
      · rw [h2.low x w, p2 x w]
        split <;> simp
      · obtain ⟨i, hi, b1⟩ := h2.onto x (by omega) hx
        obtain ⟨a', b, h1, h22, h3, h4, h5, h6⟩ := h2.prt i hi
        rw [b1] at h3
        cases h3
        rw [h6]
        show (ite _ (0 : Int32) 1) = 0 ∨ (ite _ (0 : Int32) 1) = 1
        by_cases w3 : (pp a').2.2 = if false = true then 1 else 0
        · rw [if_pos w3]; exact Or.inl rfl
        · rw [if_neg w3]; exact Or.inr rfl
    rcases this with w | w <;> rw [w] <;> decide
  rw [em1, hz1]
  refine c_takeParts (A := n) (S := 0) (U := 0) (fl := false) (k := fun i => i) (m := n2) (cc := cc2) (tb := fun x => decide ((pp1 x).2.2 = 1)) (n := n2) (mm := va_up mm a0 (c_pt M' c1 pt1)) ha ha2 hne2 (by omega) (by rw [em2]; exact hz2) hpok2 (by rw [em2]; exact u1) hbit (by decide) (by decide) (by omega) (fun i hi => hi) (fun i i' h1 _ => h1) (fun e he => ⟨fun _ => ⟨e, he, rfl⟩, fun _ => Nat.zero_testBit e⟩) (by rw [em2]; exact u3) (by rw [em2]; exact u4) (Nat.le_refl _) (Nat.le_refl _) (fun np' pa' pp' pt c h3 h4 => ⟨2 ^ (n + n2) + 1, ?_⟩)
  rw [em2, e02] at h4
  rw [e02, b_upup]
  have ec : (c_pt M' c1 pt1).2.2.2.1 2 = c1 := by show (va_up M'.2.2.2.1 2 c1) 2 = c1; exact va_up_self _ _ _
  rw [ec] at h4
  have ecc : c_pt (c_pt M' c1 pt1) c pt = c_pt M' c pt := by
    unfold c_pt
    show (M'.1, M'.2.1, M'.2.2.1, va_up (va_up M'.2.2.2.1 2 c1) 2 c, M'.2.2.2.2.1, pt) = _
    rw [b_upup]
  rw [ecc]
  have := c_jo49 (mm := mm) (M := c_pt M' c pt) (s := s) (t := t) (n := n) (n2 := n2) (q_o := q') (l_o := o_ln l_o (n + n2)) (o_r := o') (g_o := g) (g_t := t') (post := post) (mc := mc) (ms := ms) (kc := 0 + c_bgc l_o (mm a0) (n + n2) + n + n2) (ks := 0 + c_bgs l_o (mm a0) (n + n2) + 3 * n + 3 * n2) (sa := sa) (ss := ss) (ns := ns) (np := np') (pa := pa') (pp := pp') ha ha1 ha2 hne hne2 hn hM.2.1 (by show 2 ^ (n + n2) ≤ M'.2.2.1 6; omega) (by show M'.2.2.1 6 < 2 ^ 31; omega) hz1 hs hs3 hl1 ht ht3 hl2 (fun f hf => h q' o' g t' M' np1 pp1 pt1 c1 np' pa' pp' pt c _ f ho' hM (fun x hx => by rw [h3 x (by omega), h1 x hx]) h2 h4 hf) (2 ^ (n + n2)) 0 ((c_pt M' c pt).2.2.2.1 6) (by omega) (fun S hS => absurd hS (Nat.not_lt_zero S))
  rw [c_self] at this
  exact this
theorem b_by3 {x : Int32} (h : c_s3 x) : fits .byte (.int x) = true := by
  rcases h with h | h | h <;> rw [h] <;> decide
theorem c_repeat {p : Int32} {s : Nat → Int32} {cc : Nat → Nat} {tb : Nat → Bool} (ha : a0 < cm) (ha1 : a1 < cm) (hne : a0 ≠ a1) (hn : n ≤ 12) (h12 : (mm a1).2.1 12 = p) (hsz : (mm a1).2.1 13 = nI n) (hrk : (mm a1).2.1 14 = nI r) (hl1 : 2 ^ n ≤ (mm a1).2.2.1 6) (hl0 : (mm a0).2.2.1 6 ≤ 4096) (ho : o_Ok l_o o_r g_o g_t q) (hs : ∀ S, S < 2 ^ n → (mm a1).2.2.2.1 6 S = s S) (hs3 : ∀ S, S < 2 ^ n → c_s3 (s S)) (hpok : px_pok cm np mm) (hPT : c_PT np pp (mm a1) n cc tb) (hmc : c_bgc l_o (mm a0) n + n ≤ mc) (hms : c_bgs l_o (mm a0) n + 3 * n ≤ ms)
    (h : ∀ q' o' g t M' np' pa' pp' pt c w f, o_Ok (o_ln l_o n) o' g t (max q n) → c_bgn (mm a0) M' p n (nI r) → (∀ x, x < np → pa' x = pa x) → c_TP (mm a1).2.2.2.2.2 ((mm a1).2.2.2.1 2) (x_hd (mm a1).2.2.2.2.2 cc 0 0 tb n) 0 (fun i => i) 0 np pp (mm a0).2.2.2.2.2 ((mm a0).2.2.2.1 2) n np' pp' pt c → (∀ e, e < n → w e = (mm a1).2.2.2.1 3 e) → (∀ e, n ≤ e → e < 12 → w e = 0) → (∀ S, S < 2 ^ n → f S = s S) → post q' (o_ln l_o n) o' g t (va_up mm a0 (c_set (c_set (c_pt M' c pt) 3 w) 6 f)) np' pa' pp') :
    w266_wp a0 cm ns sa ss a1 mc ms post q_o l_o o_r g_o g_t mm np pa pp := by
  have hp := b_p12 hn
  unfold w266_wp
  rw [h12, hsz, hrk]
  refine ⟨ha1, ha1, ha1, c_bgc l_o (mm a0) n, c_bgs l_o (mm a0) n, by omega, by omega, ha, c_begin ha hn ho (by omega) (Nat.le_refl _) (Nat.le_refl _) (fun q' o' g t M' ho' hM => ⟨n, 3 * n, by omega, by omega, ha, ?_⟩)⟩
  have em : (va_up mm a0 M') a1 = mm a1 := va_up_ne _ _ (fun k => hne k.symm)
  have e0 : (va_up mm a0 M') a0 = M' := va_up_self _ _ _
  obtain ⟨p1, p2, p3, p4⟩ := hPT
  have hM6 : M'.2.2.1 6 = max ((mm a0).2.2.1 6) (2 ^ n) := hM.2.2.2.2.2.2.1
  have hM2 : M'.2.2.2.1 2 = (mm a0).2.2.2.1 2 := hM.2.2.2.2.2.2.2.2.2.2.1 2 (by decide) (by decide) (by decide)
  have hM3 : M'.2.2.2.2 = (mm a0).2.2.2.2 := hM.2.2.2.2.2.2.2.2.2.2.2.1
  have hpok' : px_pok cm np (va_up mm a0 M') := by
    intro i hi e k hk
    by_cases w : i = a0
    · rw [w, va_up_self, hM3] at hk
      exact hpok a0 ha e k hk
    · rw [va_up_ne _ _ w] at hk
      exact hpok i hi e k hk
  refine c_takeParts (A := 0) (S := 0) (U := 0) (fl := false) (k := fun i => i) (m := n) (cc := cc) (tb := tb) (n := n) (mm := va_up mm a0 M') ha ha1 hne hn (by rw [em]; exact hsz) hpok' (by rw [em]; exact p1) p2 (by decide) (by decide) (by omega) (fun i hi => hi) (fun i i' h1 _ => h1) (fun e he => ⟨fun _ => ⟨e, he, rfl⟩, fun _ => Nat.zero_testBit e⟩) (by rw [em]; exact p3) (by rw [em]; exact p4) (Nat.le_refl _) (Nat.le_refl _) (fun np' pa' pp' pt c h1 h2 => ?_)
  rw [em, e0, hM2, hM3] at h2
  rw [e0, b_upup]
  have ex : (va_up mm a0 (c_pt M' c pt)) a0 = c_pt M' c pt := va_up_self _ _ _
  have ey : (va_up mm a0 (c_pt M' c pt)) a1 = mm a1 := va_up_ne _ _ (fun k => hne k.symm)
  have e13 : (c_pt M' c pt).2.1 13 = nI n := hM.2.1
  rw [ex, ey, e13, show Int32.toNatClampNeg 0 = 0 from rfl, nI_clamp (show n < 2 ^ 31 by omega)]
  refine ⟨ha1, ha, ha, ha1, ha, by decide, by decide, nI_pos (by omega), by omega, by omega, fun _ _ => rfl, fun g39 e39 mm21 e21 => ⟨ha1, ha, ha, ?_⟩⟩
  rw [b_upup] at e21
  have e21' : mm21 = va_up mm a0 (c_set (c_pt M' c pt) 3 g39) := e21
  have ex1 : mm21 a0 = c_set (c_pt M' c pt) 3 g39 := by rw [e21', va_up_self]
  have ey1 : mm21 a1 = mm a1 := by rw [e21', va_up_ne _ _ (fun k => hne k.symm)]
  have e131 : (c_set (c_pt M' c pt) 3 g39).2.1 13 = nI n := hM.2.1
  have e61 : (c_set (c_pt M' c pt) 3 g39).2.2.1 6 = M'.2.2.1 6 := rfl
  rw [ex1, ey1, e131, e61, b_sh (by omega), nI_clamp (show 2 ^ n < 2 ^ 31 by omega)]
  refine ⟨ha1, ha, by decide, by decide, nI_pos (by omega), by omega, by omega, fun i hi => ?_, fun g58 e58 mm23 e23 => ?_⟩
  · rw [Nat.zero_add, hs i hi]; exact b_by3 (hs3 i hi)
  · have e23' : mm23 = va_up mm a0 (c_set (c_set (c_pt M' c pt) 3 g39) 6 g58) := by rw [e23, e21', b_upup]; rfl
    rw [e23']
    refine h q' o' g t M' np' pa' pp' pt c g39 g58 ho' hM h1 h2 (fun e he => ?_) (fun e he h12 => ?_) (fun S hS => ?_)
    · rw [e39]; unfold va_cpy
      rw [if_pos ⟨Nat.zero_le _, by omega⟩, Nat.sub_zero, Nat.zero_add]
    · rw [e39]; unfold va_cpy
      rw [if_neg (by omega)]
      show (va_up M'.2.2.2.1 2 c) 3 e = 0
      rw [va_up_ne _ _ (by decide)]
      exact hM.2.2.2.2.2.2.2.2.1 e h12
    · rw [e58]; unfold va_cpy
      rw [if_pos ⟨Nat.zero_le _, by omega⟩, Nat.sub_zero, Nat.zero_add]
      exact hs S hS
end CJO
