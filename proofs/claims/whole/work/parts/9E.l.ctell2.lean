/-! PURE, the class: tellChirotope, tellSigns -/
theorem x_chlT {n : Nat} (hn : n ≤ 12) (r : Nat) (s : Nat → Int32) : x_fa (x_chl n r s) 4096 0 = x_fa (fun i => [x_mrk (s (x_or n i))]) (x_st n (r + 1) - x_st n r) (x_st n r) := by
  have h1 : x_fa (x_chl n r s) 4096 0 = ((x_Ln n).filter (fun S => decide (x_n S = r))).flatMap (fun S => [x_mrk (s S)]) := by
    rw [← x_faF hn]
    refine x_faC 4096 0 (fun k _ _ => ?_)
    unfold x_chl
    by_cases q : x_or 12 k < 2 ^ n ∧ x_n (x_or 12 k) = r
    · rw [if_pos q, if_pos ⟨q.1, decide_eq_true q.2⟩]
    · rw [if_neg q, if_neg (fun z => q ⟨z.1, of_decide_eq_true z.2⟩)]
  rw [h1, ← x_fmF, ← x_faG, x_Lnl n (by omega)]
  have a1 := x_stm (n := n) (show r ≤ r + 1 by omega)
  have a2 := x_stl (m := n) (j := r + 1) hn
  have hsp : 2 ^ n = x_st n r + ((x_st n (r + 1) - x_st n r) + (2 ^ n - x_st n (r + 1))) := by omega
  rw [show x_fa (fun k => if decide (x_n ((x_Ln n).getD k 0) = r) = true then [x_mrk (s ((x_Ln n).getD k 0))] else []) (2 ^ n) 0 = x_fa (fun k => if decide (x_n ((x_Ln n).getD k 0) = r) = true then [x_mrk (s ((x_Ln n).getD k 0))] else []) (x_st n r + ((x_st n (r + 1) - x_st n r) + (2 ^ n - x_st n (r + 1)))) 0 by rw [← hsp], x_faA, x_faA, Nat.zero_add]
  have z1 : x_fa (fun k => if decide (x_n ((x_Ln n).getD k 0) = r) = true then [x_mrk (s ((x_Ln n).getD k 0))] else []) (x_st n r) 0 = [] := x_faZ _ _ (fun k _ h2 => if_neg (fun z => by
    have := (x_sti (m := r) hn (show k < 2 ^ n by omega)).2 (of_decide_eq_true z)
    omega))
  have z2 : x_fa (fun k => if decide (x_n ((x_Ln n).getD k 0) = r) = true then [x_mrk (s ((x_Ln n).getD k 0))] else []) (2 ^ n - x_st n (r + 1)) (x_st n r + (x_st n (r + 1) - x_st n r)) = [] := x_faZ _ _ (fun k h1 h2 => if_neg (fun z => by
    have := (x_sti (m := r) hn (show k < 2 ^ n by omega)).2 (of_decide_eq_true z)
    omega))
  rw [z1, z2, List.nil_append, List.append_nil]
  refine x_faC _ _ (fun k h1 h2 => ?_)
  exact if_pos (decide_eq_true ((x_sti (m := r) hn (show k < 2 ^ n by omega)).1 ⟨h1, by omega⟩))
theorem x_ngkC {s : Nat → Int32} {B C : Nat} : ∀ (k e : Nat), (x_ngk s B C k).testBit e = true → C.testBit e = true ∧ e < k
  | 0, e, h => by
    have : (0 : Nat).testBit e = true := h
    rw [Nat.zero_testBit] at this; cases this
  | k + 1, e, h => by
    unfold x_ngk at h
    by_cases q : C.testBit k = true ∧ k ≠ x_ls C ∧ x_neg1 s B k (x_ls C) = true
    · rw [if_pos q, Nat.testBit_or, Bool.or_eq_true] at h
      rcases h with z | z
      · have := x_ngkC k e z; exact ⟨this.1, by omega⟩
      · rw [Nat.testBit_two_pow] at z
        have : k = e := of_decide_eq_true z
        rw [← this]; exact ⟨q.1, Nat.lt_succ_self k⟩
    · rw [if_neg q] at h
      have := x_ngkC k e h; exact ⟨this.1, by omega⟩
theorem x_ngkL {s : Nat → Int32} {B C : Nat} : ∀ (k : Nat), x_ngk s B C k < 2 ^ k
  | 0 => by show 0 < 1; decide
  | k + 1 => by
    have ih := x_ngkL (s := s) (B := B) (C := C) k
    have hp : 2 ^ (k + 1) = 2 * 2 ^ k := by rw [Nat.pow_succ, Nat.mul_comm]
    unfold x_ngk
    split
    · exact Nat.or_lt_two_pow (by omega) (Nat.pow_lt_pow_right (by decide) (by omega))
    · omega
/-- the signs of the circuit C -/
def x_cgT (b : Nat → Bool) (n : Nat) (s : Nat → Int32) (C : Nat) : List Nat := x_fa (x_sgc C (x_ngk s (x_cb b n C) C n)) n 0 ++ [10]
theorem x_sglT {n : Nat} (hn : n ≤ 12) (b : Nat → Bool) (r : Nat) (s : Nat → Int32) : x_fa (x_sgl b n s) 4096 0 = x_fa (fun k => x_cgT b n s ((x_fam b n r 1).getD k 0)) (x_fam b n r 1).length 0 := by
  rw [x_faG (x_cgT b n s)]
  exact x_faF hn (x_ci b n) (x_cgT b n s)
theorem x_mrkb {C N e : Nat} (hC : C < 2 ^ 31) (hN : N < 2 ^ 31) (he : e < 32) (h : N.testBit e = true → C.testBit e = true) : [x_mrk (((nI C >>> (nI e &&& 31)) &&& 1) - (2 * ((nI N >>> (nI e &&& 31)) &&& 1)))] = x_sgc C N e := by
  rw [b_bit hC he, b_bit hN he]
  unfold x_sgc
  by_cases q : C.testBit e = true
  · rw [if_pos q, if_pos q]
    by_cases q2 : N.testBit e = true
    · rw [if_pos q2, if_pos q2]; decide
    · rw [if_neg q2, if_neg q2]; decide
  · rw [if_neg q, if_neg q, if_neg (fun z => q (h z))]; decide
theorem x_rlen {n r : Nat} {b : Nat → Bool} (h : x_M n r b) : r ≤ n := by
  obtain ⟨B, hB⟩ := h.2.1
  have h1 := h.2.2.1 B hB
  have := x_nlen h.1 h1.1
  omega
section CTS
variable {cm np ns a : Nat} {pa sa : Nat → Nat} {pp : Nat → px_PR} {ss : Nat → px_SR} {mc ms : Nat} {q_o l_o q : Nat} {o_r : Int32} {g_o g_t : Nat → Int32} {mm : Nat → px_MR} {n r : Nat} {b : Nat → Bool} {M T q_b l_b : Nat} {pl pf d1 d2 d3 d4 : Int32} {d5 : Option Nat} {g gd : Nat → Int32} {U : List Nat} {post : Int32 → Int32 → Int32 → Int32 → Option Nat → Nat → Nat → Int32 → Int32 → (Nat → Int32) → (Nat → Int32) → Nat → Nat → Int32 → (Nat → Int32) → (Nat → Int32) → (Nat → px_MR) → Prop}
theorem c_tellChi {s : Nat → Int32} (ha : a < cm) (h : c_kn (mm a) n r b) (h6 : ∀ S, S < 2 ^ n → (mm a).2.2.2.1 6 S = s S) (ho : o_Ok l_o o_r g_o g_t q) (hnq : n ≤ q) (hI : pr_I M T l_b pl pf g U) (hb : pr_b 0 0 l_b T mc ms) (hM : min 65536 (U.length + (x_fa (x_chl n r s) 4096 0 ++ [10]).length) ≤ M)
    (hp : ∀ q' l' pl' pf' g' gd', pr_I M T l' pl' pf' g' (U ++ (x_fa (x_chl n r s) 4096 0 ++ [10])) → post d1 d2 d3 d4 d5 q' l' pl' pf' g' gd' q_o l_o o_r g_o g_t mm) : w290_wp cm np ns pa sa pp ss a mc ms post d1 d2 d3 d4 d5 q_b l_b pl pf g gd q_o l_o o_r g_o g_t mm := by
  have hn := c_knn h
  have hB := h.1
  have hr := x_rlen hB.2.2.1
  have a1 := x_stm (n := n) (show r ≤ r + 1 by omega)
  have a2 := x_stl (m := n) (j := r + 1) hn.1
  have h6l : (mm a).2.2.1 6 ≤ 4096 := h.2.2.2.2.2.1
  have h6g : 2 ^ n ≤ (mm a).2.2.1 6 := hB.2.2.2.1
  rw [x_chlT hn.1] at hM hp
  unfold w290_wp
  rw [hB.1, hB.2.1, nI_1]
  refine ⟨ha, ha, c_ostart ho hnq (by omega) ⟨ha, ha, c_ostart ho hnq (by omega) ⟨(x_st n (r + 1) - x_st n r) + 1, ?_⟩⟩⟩
  have loop : ∀ (u i : Nat), i + u = x_st n (r + 1) → x_st n r ≤ i → ∀ (q' l' : Nat) (pl' pf' : Int32) (g' gd' : Nat → Int32) (kc ks : Nat) (W : List Nat), pr_I M T l' pl' pf' g' W → pr_b kc ks l' T mc ms → W ++ (x_fa (fun i => [x_mrk (s (x_or n i))]) u i ++ [10]) = U ++ (x_fa (fun i => [x_mrk (s (x_or n i))]) (x_st n (r + 1) - x_st n r) (x_st n r) ++ [10]) → w290_L34 cm np ns pa sa pp ss a mc ms post (u + 1) (nI (x_st n (r + 1))) (nI i) d1 d2 d3 d4 d5 q' l' pl' pf' g' gd' q_o l_o o_r g_o g_t mm kc ks := by
    intro u
    induction u with
    | zero =>
      intro i hi hi0 q' l' pl' pf' g' gd' kc ks W hI' hb' hW
      unfold w290_L34
      refine ⟨fun _ => ?_, fun z => absurd (nI_le (show x_st n (r + 1) ≤ i by omega) (by omega)) z⟩
      have hW : W ++ [10] = U ++ (x_fa (fun i => [x_mrk (s (x_or n i))]) (x_st n (r + 1) - x_st n r) (x_st n r) ++ [10]) := hW
      refine c_sub (c_pput (c := 10) (by decide)) hI' hb' (pr_len hM hW) (fun m s' q1 l1 pl1 pf1 g1 gd1 hI1 _ _ => ?_)
      rw [hW] at hI1
      exact hp _ _ _ _ _ _ hI1
    | succ u ih =>
      intro i hi hi0 q' l' pl' pf' g' gd' kc ks W hI' hb' hW
      unfold w290_L34
      refine ⟨fun z => absurd z (nI_ge (by omega) (by omega)), fun _ => ⟨ha, ha, ?_⟩⟩
      rw [hB.1]
      obtain ⟨o1, o2⟩ := x_orl hn.1 (show i < 2 ^ n by omega)
      refine c_oset ho hnq (by omega) ⟨ha, b_in (by omega) (by omega), ?_⟩
      rw [nI_clamp (show x_or n i < 2 ^ 31 by omega), h6 _ o1]
      have hW2 : W ++ ([x_mrk (s (x_or n i))] ++ (x_fa (fun i => [x_mrk (s (x_or n i))]) u (i + 1) ++ [10])) = U ++ (x_fa (fun i => [x_mrk (s (x_or n i))]) (x_st n (r + 1) - x_st n r) (x_st n r) ++ [10]) := hW
      refine c_sub2 (V := [x_mrk (s (x_or n i))]) (W := x_fa (fun i => [x_mrk (s (x_or n i))]) u (i + 1) ++ [10]) (c_mark (x := s (x_or n i))) hI' hb' (pr_len hM hW2) (fun m s' q1 l1 pl1 pf1 g1 gd1 hI1 _ hb1 => ?_)
      intro z9 e9
      rw [e9, nI_1]
      exact ih (i + 1) (by omega) (by omega) q1 l1 pl1 pf1 g1 gd1 _ _ _ hI1 hb1 (by rw [List.append_assoc]; exact hW2)
  exact loop (x_st n (r + 1) - x_st n r) (x_st n r) (by omega) (Nat.le_refl _) q_b l_b pl pf g gd 0 0 U hI hb rfl
/-- what tellSigns leaves of the lengths -/
def x_gS (n N : Nat) (g : Nat → Nat) : Nat → Nat := if N = 0 then x_gL n N 1 g else x_g7 n (x_gL n N 1 g)
def x_scc (n N : Nat) (g : Nat → Nat) : Nat := x_lcc n N 1 g + (if x_gL n N 1 g 7 < 2 ^ n then 1 else 0)
def x_scs (n N : Nat) (g : Nat → Nat) : Nat := x_lcs n N 1 g + (if x_gL n N 1 g 7 < 2 ^ n then 2 ^ n else 0)
theorem c_tellSgn {s : Nat → Int32} (ha : a < cm) (h : c_kn (mm a) n r b) (h6 : ∀ S, S < 2 ^ n → (mm a).2.2.2.1 6 S = s S) (ho : o_Ok l_o o_r g_o g_t q) (hnq : n ≤ q) (h4 : ∃ j, c_lv (mm a) (20 + 1) * 4 ^ j = 4096) (hI : pr_I M T l_b pl pf g U) (hb : pr_b (x_scc n (x_fam b n r 1).length (c_lv (mm a))) (x_scs n (x_fam b n r 1).length (c_lv (mm a))) l_b T mc ms) (hM : min 65536 (U.length + (x_fa (x_sgl b n s) 4096 0).length) ≤ M)
    (hp : ∀ M' q' l' pl' pf' g' gd', c_kn M' n r b → c_fr (mm a) M' → c_lv M' = x_gS n (x_fam b n r 1).length (c_lv (mm a)) → (c_R (mm a) n b → c_R M' n b) → pr_I M T l' pl' pf' g' (U ++ x_fa (x_sgl b n s) 4096 0) → post d1 d2 d3 d4 d5 q' l' pl' pf' g' gd' q_o l_o o_r g_o g_t (va_up mm a M')) : w292_wp cm np ns pa sa pp ss a mc ms post d1 d2 d3 d4 d5 q_b l_b pl pf g gd q_o l_o o_r g_o g_t mm := by
  have hn := c_knn h
  have hfl := x_faml (b := b) (r := r) (kind := 1) hn.1
  rw [x_sglT hn.1 b r] at hM hp
  unfold w292_wp
  unfold x_scc x_scs at hb
  have hb1 : x_lcc n (x_fam b n r 1).length 1 (c_lv (mm a)) ≤ mc ∧ x_lcs n (x_fam b n r 1).length 1 (c_lv (mm a)) ≤ ms := by
    unfold pr_b at hb
    omega
  refine ⟨x_lcc n (x_fam b n r 1).length 1 (c_lv (mm a)), x_lcs n (x_fam b n r 1).length 1 (c_lv (mm a)), by omega, by omega, ha, c_aL (k := 1) ha h ho hnq (by decide) h4 (Nat.le_refl _) (Nat.le_refl _) (fun M' m1 m2 m3 m4 m5 m6 m7 m8 m9 => ⟨(x_fam b n r 1).length + 1, ?_⟩)⟩
  rw [Nat.zero_add, Nat.zero_add]
  have hck : Int32.toNatClampNeg 1 = 1 := rfl
  have hmem : ∀ j, j < (x_fam b n r 1).length → M'.2.2.2.1 (20 + 1) j = nI ((x_fam b n r 1).getD j 0) ∧ (x_fam b n r 1).getD j 0 < 2 ^ n ∧ x_ci b n ((x_fam b n r 1).getD j 0) = true := fun j hj => by
    have e : (x_fam b n r 1)[j]? = some ((x_fam b n r 1).getD j 0) := by
      rw [List.getD_eq_getElem?_getD, List.getElem?_eq_getElem hj]; rfl
    have h1 := List.mem_filter.1 (List.mem_of_getElem? e)
    exact ⟨m9 j _ e, (x_Lnm hn.1 _).1 h1.1, h1.2⟩
  have hM16 : M'.2.2.1 (20 + 1) ≤ 4096 := (m1.2.2.1 1 (by decide)).2.1
  have loop : ∀ (u i : Nat), i + u = (x_fam b n r 1).length → ∀ (q' l' : Nat) (pl' pf' : Int32) (g' gd' : Nat → Int32) (kc ks : Nat) (W : List Nat) (M1 : px_MR), c_kn M1 n r b → c_fr (mm a) M1 → c_lv M1 = (if i = 0 then x_gL n (x_fam b n r 1).length 1 (c_lv (mm a)) else x_g7 n (x_gL n (x_fam b n r 1).length 1 (c_lv (mm a)))) → (c_R (mm a) n b → c_R M1 n b) → M1.2.2.2.1 (20 + 1) = M'.2.2.2.1 (20 + 1) → M1.2.2.1 (20 + 1) = M'.2.2.1 (20 + 1) → pr_I M T l' pl' pf' g' W → pr_b (kc + c_rc M1 n) (ks + c_rs M1 n) l' T mc ms → W ++ x_fa (fun k' => x_cgT b n s ((x_fam b n r 1).getD k' 0)) u i = U ++ x_fa (fun k' => x_cgT b n s ((x_fam b n r 1).getD k' 0)) (x_fam b n r 1).length 0 → w292_L8 cm np ns pa sa pp ss a mc ms post (u + 1) (nI (x_fam b n r 1).length) (nI i) d1 d2 d3 d4 d5 q' l' pl' pf' g' gd' q_o l_o o_r g_o g_t (va_up mm a M1) kc ks := by
    intro u
    induction u with
    | zero =>
      intro i hi q' l' pl' pf' g' gd' kc ks W M1 k1 k2 k3 k4 k5 k6 hI' hb' hW
      unfold w292_L8
      refine ⟨fun _ => ?_, fun z => absurd (nI_le (show (x_fam b n r 1).length ≤ i by omega) (by omega)) z⟩
      have hW : W = U ++ x_fa (fun k' => x_cgT b n s ((x_fam b n r 1).getD k' 0)) (x_fam b n r 1).length 0 := by rw [← hW]; exact (List.append_nil W).symm
      rw [hW] at hI'
      refine hp M1 q' l' pl' pf' g' gd' k1 k2 ?_ k4 hI'
      rw [k3, show i = (x_fam b n r 1).length by omega]; rfl
    | succ u ih =>
      intro i hi q' l' pl' pf' g' gd' kc ks W M1 k1 k2 k3 k4 k5 k6 hI' hb' hW
      obtain ⟨c1, c2, c3⟩ := hmem i (by omega)
      generalize hC : (x_fam b n r 1).getD i 0 = C at *
      have hci := x_ciT hn.1 c2 c3
      have hC0 : C ≠ 0 := fun z => by
        have := (x_ciL hci hn.1).2.1
        rw [z, Nat.zero_testBit] at this; cases this
      have hK6 : ∀ S, S < 2 ^ n → (va_up mm a M1 a).2.2.2.1 6 S = s S := fun S hS => by
        rw [va_up_self, k2.2.2.1 6 (by omega)]; exact h6 S hS
      unfold w292_L8
      refine ⟨fun z => absurd z (nI_ge (by omega) (by omega)), fun _ => ⟨ha, ha, b_in (n := 1) (by decide) (by decide), ha, ?_⟩⟩
      rw [va_up_self, hck, nI_clamp (show i < 2 ^ 31 by omega), k5, k6, c1]
      refine ⟨b_in (by omega) (by omega), by decide, fun z19 e19 => ?_⟩
      rw [e19]
      have hbb : kc + c_rc M1 n ≤ mc ∧ ks + c_rs M1 n ≤ ms := by
        unfold pr_b at hb'
        omega
      refine ⟨c_rc M1 n, c_rs M1 n, hbb.1, hbb.2, ha, c_neg ha (by rw [va_up_self]; exact k1.1) (by rw [va_up_self]; exact k1.2.1) hK6 c2 hC0 (by rw [va_up_self]; exact Nat.le_refl _) (by rw [va_up_self]; exact Nat.le_refl _) (fun M2 hQ => ⟨n + 1, ?_⟩)⟩
      rw [va_up_self] at hQ
      have hqk := c_Qk k1 hQ
      have hvv : va_up (va_up mm a M1) a M2 = va_up mm a M2 := by
        funext y
        by_cases w : y = a
        · rw [w, va_up_self, va_up_self]
        · rw [va_up_ne _ _ w, va_up_ne _ _ w, va_up_ne _ _ w]
      rw [hvv]
      have hlv2 : c_lv M2 = x_g7 n (x_gL n (x_fam b n r 1).length 1 (c_lv (mm a))) := by
        rw [c_lvQ k1 hQ, k3]
        by_cases w : i = 0
        · rw [if_pos w]
        · rw [if_neg w]
          funext y
          unfold x_g7
          by_cases w7 : y = 7
          · rw [if_pos w7, if_pos rfl, if_pos w7]
            omega
          · rw [if_neg w7]
      have hsz : (va_up mm a M2 a).2.1 13 = nI n := by rw [va_up_self]; exact hqk.1.1.1
      have hng := x_ngkL (s := s) (B := x_cb b n C) (C := C) n
      -- one circuit's row
      have row : ∀ (v e : Nat), e + v = n → ∀ (q' l' : Nat) (pl' pf' : Int32) (g' gd' : Nat → Int32) (kc1 ks1 : Nat) (W1 : List Nat), pr_I M T l' pl' pf' g' W1 → pr_b kc1 ks1 l' T mc ms → W1 ++ ((x_fa (x_sgc C (x_ngk s (x_cb b n C) C n)) v e ++ [10]) ++ x_fa (fun k' => x_cgT b n s ((x_fam b n r 1).getD k' 0)) u (i + 1)) = U ++ x_fa (fun k' => x_cgT b n s ((x_fam b n r 1).getD k' 0)) (x_fam b n r 1).length 0 → w292_L34 (w292_L8 cm np ns pa sa pp ss a mc ms post (u + 1)) cm np ns pa sa pp ss a mc ms post (v + 1) (nI (x_fam b n r 1).length) (nI i) (nI C) (nI (x_ngk s (x_cb b n C) C n)) (nI e) d1 d2 d3 d4 d5 q' l' pl' pf' g' gd' q_o l_o o_r g_o g_t (va_up mm a M2) kc1 ks1 := by
        intro v
        induction v with
        | zero =>
          intro e he q' l' pl' pf' g' gd' kc1 ks1 W1 hI1 hb1 hW1
          unfold w292_L34
          rw [hsz]
          refine ⟨ha, fun _ => ?_, fun z => absurd (nI_le (show n ≤ e by omega) (by omega)) z⟩
          have hW1 : W1 ++ ([10] ++ x_fa (fun k' => x_cgT b n s ((x_fam b n r 1).getD k' 0)) u (i + 1)) = U ++ x_fa (fun k' => x_cgT b n s ((x_fam b n r 1).getD k' 0)) (x_fam b n r 1).length 0 := hW1
          refine c_sub2 (V := [10]) (W := x_fa (fun k' => x_cgT b n s ((x_fam b n r 1).getD k' 0)) u (i + 1)) (c_pput (c := 10) (by decide)) hI1 hb1 (pr_len hM hW1) (fun m s' q2 l2 pl2 pf2 g2 gd2 hI2 _ hb2 => ?_)
          intro z9 e9
          rw [e9, nI_1]
          refine ih (i + 1) (by omega) q2 l2 pl2 pf2 g2 gd2 _ _ _ M2 hqk.1 (c_frt k2 hqk.2.1) ?_ (fun hR => ?_) ?_ ?_ hI2 ?_ (by rw [List.append_assoc]; exact hW1)
          · rw [if_neg (by omega)]; exact hlv2
          · rcases hQ.2.2.2 with z | z
            · have := (k4 hR).1; rw [z] at this; exact absurd this (by decide)
            · rw [z]; exact k4 hR
          · rw [hQ.2.1.2.2.2.1 _ (by decide), k5]
          · rw [hQ.2.1.2.2.1 _ (by decide), k6]
          · rw [hqk.2.2.2.2.1, hqk.2.2.2.2.2]; exact hb2
        | succ v ihv =>
          intro e he q' l' pl' pf' g' gd' kc1 ks1 W1 hI1 hb1 hW1
          unfold w292_L34
          rw [hsz]
          refine ⟨ha, fun z => absurd z (nI_ge (by omega) (by omega)), fun _ => ?_⟩
          have hW2 : W1 ++ ([x_mrk (((nI C >>> (nI e &&& 31)) &&& 1) - (2 * ((nI (x_ngk s (x_cb b n C) C n) >>> (nI e &&& 31)) &&& 1)))] ++ ((x_fa (x_sgc C (x_ngk s (x_cb b n C) C n)) v (e + 1) ++ [10]) ++ x_fa (fun k' => x_cgT b n s ((x_fam b n r 1).getD k' 0)) u (i + 1))) = U ++ x_fa (fun k' => x_cgT b n s ((x_fam b n r 1).getD k' 0)) (x_fam b n r 1).length 0 := by
            rw [x_mrkb (by omega) (by omega) (by omega) (fun z => (x_ngkC n e z).1), ← hW1]
            show _ = W1 ++ (((x_sgc C (x_ngk s (x_cb b n C) C n) e ++ x_fa (x_sgc C (x_ngk s (x_cb b n C) C n)) v (e + 1)) ++ [10]) ++ _)
            simp only [List.append_assoc]
          refine c_sub2 (V := [x_mrk (((nI C >>> (nI e &&& 31)) &&& 1) - (2 * ((nI (x_ngk s (x_cb b n C) C n) >>> (nI e &&& 31)) &&& 1)))]) (W := (x_fa (x_sgc C (x_ngk s (x_cb b n C) C n)) v (e + 1) ++ [10]) ++ x_fa (fun k' => x_cgT b n s ((x_fam b n r 1).getD k' 0)) u (i + 1)) c_mark hI1 hb1 (pr_len hM hW2) (fun m s' q2 l2 pl2 pf2 g2 gd2 hI2 _ hb2 => ?_)
          intro z9 e9
          rw [e9, nI_1]
          exact ihv (e + 1) (by omega) q2 l2 pl2 pf2 g2 gd2 _ _ _ hI2 hb2 (by rw [List.append_assoc]; exact hW2)
      have hW0 : W ++ ((x_fa (x_sgc C (x_ngk s (x_cb b n C) C n)) n 0 ++ [10]) ++ x_fa (fun k' => x_cgT b n s ((x_fam b n r 1).getD k' 0)) u (i + 1)) = U ++ x_fa (fun k' => x_cgT b n s ((x_fam b n r 1).getD k' 0)) (x_fam b n r 1).length 0 := by
        rw [← hW]
        show _ = W ++ (x_cgT b n s ((x_fam b n r 1).getD i 0) ++ _)
        rw [hC]; rfl
      have := row n 0 (by omega) q' l' pl' pf' g' gd' (kc + c_rc M1 n) (ks + c_rs M1 n) W hI' hb' hW0
      rw [nI_0] at this
      exact this
  have hrb := c_rcb M' n
  rw [m3] at hrb
  have hb2 : pr_b (x_lcc n (x_fam b n r 1).length 1 (c_lv (mm a)) + c_rc M' n) (x_lcs n (x_fam b n r 1).length 1 (c_lv (mm a)) + c_rs M' n) l_b T mc ms := by
    unfold pr_b at hb ⊢
    omega
  have := loop (x_fam b n r 1).length 0 (by omega) q_b l_b pl pf g gd _ _ U M' m1 m2 (by rw [if_pos rfl]; exact m3) m5 rfl rfl hI hb2 rfl
  rw [nI_0] at this
  exact this
end CTS
