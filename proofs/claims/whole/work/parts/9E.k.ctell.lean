/-! PURE, the class: texts of lists; tellList -/
theorem x_faS {P : Nat → List Nat} : ∀ (u i : Nat), x_fa P u (i + 1) = x_fa (fun k => P (k + 1)) u i
  | 0, _ => rfl
  | u + 1, i => by
    show P (i + 1) ++ x_fa P u (i + 1 + 1) = P (i + 1) ++ x_fa (fun k => P (k + 1)) u (i + 1)
    rw [x_faS u (i + 1)]
theorem x_faG (P : Nat → List Nat) : ∀ l : List Nat, x_fa (fun k => P (l.getD k 0)) l.length 0 = l.flatMap P
  | [] => rfl
  | a :: t => by
    show P a ++ x_fa (fun k => P ((a :: t).getD k 0)) t.length (0 + 1) = _
    rw [x_faS, List.flatMap_cons]
    exact congrArg (fun z => P a ++ z) (x_faG P t)
theorem x_faA {P : Nat → List Nat} : ∀ (u v i : Nat), x_fa P (u + v) i = x_fa P u i ++ x_fa P v (i + u)
  | 0, v, i => by rw [Nat.zero_add]; rfl
  | u + 1, v, i => by
    rw [show u + 1 + v = (u + v) + 1 by omega]
    show P i ++ x_fa P (u + v) (i + 1) = (P i ++ x_fa P u (i + 1)) ++ x_fa P v (i + (u + 1))
    rw [x_faA u v (i + 1), List.append_assoc, show i + 1 + u = i + (u + 1) by omega]
theorem x_faZ {P : Nat → List Nat} : ∀ (u i : Nat), (∀ k, i ≤ k → k < i + u → P k = []) → x_fa P u i = []
  | 0, _, _ => rfl
  | u + 1, i, h => by
    show P i ++ x_fa P u (i + 1) = []
    rw [h i (Nat.le_refl i) (by omega), x_faZ u (i + 1) (fun k h1 h2 => h k (by omega) (by omega))]; rfl
theorem x_fmF (p : Nat → Bool) (f : Nat → List Nat) : ∀ l : List Nat, l.flatMap (fun S => if p S = true then f S else []) = (l.filter p).flatMap f
  | [] => rfl
  | a :: t => by
    rw [List.flatMap_cons, x_fmF p f t]
    by_cases q : p a = true
    · rw [if_pos q, List.filter_cons_of_pos q, List.flatMap_cons]
    · rw [if_neg q, List.filter_cons_of_neg q]; rfl
theorem x_Ln12 {n : Nat} (hn : n ≤ 12) (p : Nat → Bool) : (x_Ln 12).filter (fun S => decide (S < 2 ^ n) && p S) = (x_Ln n).filter p := by
  unfold x_Ln
  rw [List.filter_filter, List.filter_filter]
  refine List.filter_congr (fun S _ => ?_)
  have h2 : 2 ^ n ≤ 2 ^ 12 := Nat.pow_le_pow_right (by decide) hn
  by_cases q : S < 2 ^ n
  · rw [decide_eq_true q, decide_eq_true (show S < 2 ^ 12 by omega), Bool.true_and, Bool.and_true]
  · rw [decide_eq_false q, Bool.false_and, Bool.false_and, Bool.and_false]
/-- the sets of ORDER that are chosen, as the reference goes through them -/
theorem x_faF {n : Nat} (hn : n ≤ 12) (p : Nat → Bool) (f : Nat → List Nat) : x_fa (fun k => if x_or 12 k < 2 ^ n ∧ p (x_or 12 k) = true then f (x_or 12 k) else []) 4096 0 = ((x_Ln n).filter p).flatMap f := by
  have hl : (x_Ln 12).length = 4096 := x_Lnl 12 (by decide)
  have h1 := x_faG (fun S => if (decide (S < 2 ^ n) && p S) = true then f S else []) (x_Ln 12)
  rw [hl, x_fmF, x_Ln12 hn] at h1
  rw [← h1]
  refine x_faC 4096 0 (fun k _ _ => ?_)
  show _ = if (decide (x_or 12 k < 2 ^ n) && p (x_or 12 k)) = true then f (x_or 12 k) else []
  by_cases q : x_or 12 k < 2 ^ n ∧ p (x_or 12 k) = true
  · rw [if_pos q, if_pos (by rw [decide_eq_true q.1, q.2]; rfl)]
  · rw [if_neg q, if_neg (fun z => q (by
      rw [Bool.and_eq_true_iff] at z
      exact ⟨of_decide_eq_true z.1, z.2⟩))]
theorem x_fmlT {n : Nat} (hn : n ≤ 12) (b : Nat → Bool) (r kind : Nat) : x_fa (x_fml b n r kind) 4096 0 = x_fa (fun k => x_set ((x_fam b n r kind).getD k 0)) (x_fam b n r kind).length 0 := by
  rw [x_faG x_set]
  exact x_faF hn (x_of b n r kind) x_set
/-- a list is asked for: the lengths then -/
def x_gL (n N k : Nat) (g : Nat → Nat) (j : Nat) : Nat := if g (30 + k) = 0 then (if j = 7 then max (g 7) (2 ^ n) else if j = 20 + k then x_gr 4 (g (20 + k)) N else if j = 30 + k then 1 else g j) else g j
def x_lcc (n N k : Nat) (g : Nat → Nat) : Nat := if g (30 + k) = 0 then (if g 7 < 2 ^ n then 1 else 0) + (x_gr 4 (g (20 + k)) N - g (20 + k) + 15) / 16 else 0
def x_lcs (n N k : Nat) (g : Nat → Nat) : Nat := if g (30 + k) = 0 then (if g 7 < 2 ^ n then 2 ^ n else 0) + 2 * (x_gr 4 (g (20 + k)) N - g (20 + k)) else 0
theorem c_lvL {M M' : px_MR} {n r : Nat} {b : Nat → Bool} {k : Nat} (h : c_kn M n r b) (hk : k < 4) (hf : c_f720 M M' k) (hl : M'.2.2.1 (20 + k) = c_ll M b n r k) (h7 : M'.2.2.1 7 = (if M.2.2.2.1 5 k = -1 then c_rl M n else M.2.2.1 7)) (hs : ¬ M.2.2.2.1 5 k = -1 → M' = M) (h5 : M'.2.2.2.1 5 k = nI (x_fam b n r k).length) (hlen : (x_fam b n r k).length < 2 ^ 31) : c_lv M' = x_gL n (x_fam b n r k).length k (c_lv M) := by
  have e30 : c_lv M (30 + k) = if M.2.2.2.1 5 k = -1 then 0 else 1 := by
    unfold c_lv
    rw [if_neg (by omega), if_pos (by omega), show 30 + k - 30 = k by omega]
  have e20 : c_lv M (20 + k) = M.2.2.1 (20 + k) := by
    unfold c_lv
    rw [if_pos (by omega)]
  funext j
  unfold x_gL
  rw [e30, e20]
  by_cases q : M.2.2.2.1 5 k = -1
  · rw [if_pos q, if_pos rfl]
    rw [if_pos q, c_rlm h] at h7
    unfold c_ll at hl
    rw [if_pos q] at hl
    by_cases j7 : j = 7
    · subst j7
      rw [if_pos rfl]; exact h7
    · rw [if_neg j7]
      by_cases j20 : j = 20 + k
      · rw [if_pos j20, j20]
        unfold c_lv
        rw [if_pos (by omega)]; exact hl
      · rw [if_neg j20]
        by_cases j30 : j = 30 + k
        · rw [if_pos j30, j30]
          unfold c_lv
          rw [if_neg (by omega), if_pos (by omega), show 30 + k - 30 = k by omega, h5, if_neg (b_m1 hlen)]
        · rw [if_neg j30]
          unfold c_lv
          rw [hf.2.2.1 j j7 j20, hf.2.1 10 (by decide)]
          by_cases w1 : j = 6 ∨ j = 7 ∨ j = 8 ∨ (20 ≤ j ∧ j < 24)
          · rw [if_pos w1, if_pos w1]
          · rw [if_neg w1, if_neg w1]
            by_cases w2 : 30 ≤ j ∧ j < 34
            · rw [if_pos w2, if_pos w2, hf.2.2.2.2.1 (j - 30) (by omega)]
            · rw [if_neg w2, if_neg w2]
  · rw [if_neg q, if_neg (by decide), hs q]
section CTL
variable {cm np ns a : Nat} {pa sa : Nat → Nat} {pp : Nat → px_PR} {ss : Nat → px_SR} {mc ms : Nat} {q_o l_o q : Nat} {o_r : Int32} {g_o g_t : Nat → Int32} {mm : Nat → px_MR} {n r : Nat} {b : Nat → Bool}
/-- howMany, asked of a letter's matroid -/
theorem c_aL {post : Int32 → Nat → Nat → Int32 → (Nat → Int32) → (Nat → Int32) → (Nat → px_MR) → Prop} {k : Nat} (ha : a < cm) (h : c_kn (mm a) n r b) (ho : o_Ok l_o o_r g_o g_t q) (hnq : n ≤ q) (hk : k < 4) (h4 : ∃ j, c_lv (mm a) (20 + k) * 4 ^ j = 4096) (hmc : x_lcc n (x_fam b n r k).length k (c_lv (mm a)) ≤ mc) (hms : x_lcs n (x_fam b n r k).length k (c_lv (mm a)) ≤ ms)
    (hp : ∀ M', c_kn M' n r b → c_fr (mm a) M' → c_lv M' = x_gL n (x_fam b n r k).length k (c_lv (mm a)) → (¬ (mm a).2.2.2.1 5 k = -1 → M' = mm a) → (c_R (mm a) n b → c_R M' n b) → ((mm a).2.2.2.1 5 k = -1 → c_R M' n b) → M'.2.2.2.1 5 k = nI (x_fam b n r k).length → (x_fam b n r k).length ≤ M'.2.2.1 (20 + k) → (∀ j x, (x_fam b n r k)[j]? = some x → M'.2.2.2.1 (20 + k) j = nI x) → post (nI (x_fam b n r k).length) q_o l_o o_r g_o g_t (va_up mm a M')) : w272_wp a cm np ns pa sa pp ss mc ms post (nI k) q_o l_o o_r g_o g_t mm := by
  have hn := c_knn h
  have hfl := x_faml (b := b) (r := r) (kind := k) hn.1
  obtain ⟨k1, k2, k3, k4⟩ := id h
  have e30 : c_lv (mm a) (30 + k) = if (mm a).2.2.2.1 5 k = -1 then 0 else 1 := by
    unfold c_lv
    rw [if_neg (by omega), if_pos (by omega), show 30 + k - 30 = k by omega]
  have e20 : c_lv (mm a) (20 + k) = (mm a).2.2.1 (20 + k) := by
    unfold c_lv
    rw [if_pos (by omega)]
  have hb : c_ll (mm a) b n r k ≤ 4096 := by
    unfold c_ll
    have h3 := k3 k hk
    rw [e20] at h4
    by_cases w : (mm a).2.2.2.1 5 k = -1
    · have h31 := h3.1
      rw [if_pos w]; exact x_gr40 4 _ _ h3.2.1 (by omega) hfl h4
    · rw [if_neg w]; exact h3.2.1
  have e7 : c_lv (mm a) 7 = (mm a).2.2.1 7 := rfl
  unfold x_lcc at hmc
  unfold x_lcs at hms
  rw [e30, e20, e7] at hmc hms
  have hcost : (mm a).2.2.2.1 5 k = -1 → 16 * c_rc (mm a) n + (c_ll (mm a) b n r k - (mm a).2.2.1 (20 + k)) ≤ 16 * mc ∧ c_rs (mm a) n + 2 * (c_ll (mm a) b n r k - (mm a).2.2.1 (20 + k)) ≤ ms := fun c => by
    rw [if_pos c, if_pos rfl] at hmc hms
    have hrb := c_rcb (mm a) n
    rw [e7] at hrb
    have hll : c_ll (mm a) b n r k = x_gr 4 ((mm a).2.2.1 (20 + k)) (x_fam b n r k).length := by unfold c_ll; rw [if_pos c]
    rw [hll]
    omega
  refine c_howMany ha k1 k2 ho hnq hk (k3 k hk) (fun c => (hcost c).1) (fun c => (hcost c).2) (fun M' f1 f2 f3 f4 f5 f6 f7 f8 f9 f10 => ?_)
  have hlk := c_Lk h hk f1 f2 f3 f4 f5 f6 f7 f8 f9 f10 hb
  refine hp M' hlk.1 hlk.2.1 (c_lvL h hk f1 f4 f5 f7 f8 (by omega)) f7 (fun hR => ?_) f6 f8 f9 f10
  by_cases c : (mm a).2.2.2.1 5 k = -1
  · exact f6 c
  · rw [f7 c]; exact hR
theorem pr_len {U V W X : List Nat} {M : Nat} (hM : min 65536 (U.length + V.length) ≤ M) (e : W ++ X = U ++ V) : min 65536 (W.length + X.length) ≤ M := by
  rw [← List.length_append, e, List.length_append]; exact hM
theorem c_tellList {post : Int32 → Int32 → Int32 → Int32 → Option Nat → Nat → Nat → Int32 → Int32 → (Nat → Int32) → (Nat → Int32) → Nat → Nat → Int32 → (Nat → Int32) → (Nat → Int32) → (Nat → px_MR) → Prop} {k M T q_b l_b : Nat} {pl pf d1 d2 d3 d4 : Int32} {d5 : Option Nat} {g gd : Nat → Int32} {U : List Nat} (ha : a < cm) (h : c_kn (mm a) n r b) (ho : o_Ok l_o o_r g_o g_t q) (hnq : n ≤ q) (hk : k < 4) (h4 : ∃ j, c_lv (mm a) (20 + k) * 4 ^ j = 4096) (hI : pr_I M T l_b pl pf g U) (hb : pr_b (x_lcc n (x_fam b n r k).length k (c_lv (mm a))) (x_lcs n (x_fam b n r k).length k (c_lv (mm a))) l_b T mc ms) (hM : min 65536 (U.length + (x_fa (x_fml b n r k) 4096 0).length) ≤ M)
    (hp : ∀ M' q' l' pl' pf' g' gd', c_kn M' n r b → c_fr (mm a) M' → c_lv M' = x_gL n (x_fam b n r k).length k (c_lv (mm a)) → (c_R (mm a) n b → c_R M' n b) → pr_I M T l' pl' pf' g' (U ++ x_fa (x_fml b n r k) 4096 0) → post d1 d2 d3 d4 d5 q' l' pl' pf' g' gd' q_o l_o o_r g_o g_t (va_up mm a M')) : w271_wp cm np ns pa sa pp ss a mc ms post (nI k) d1 d2 d3 d4 d5 q_b l_b pl pf g gd q_o l_o o_r g_o g_t mm := by
  have hn := c_knn h
  have hfl := x_faml (b := b) (r := r) (kind := k) hn.1
  rw [x_fmlT hn.1] at hM hp
  unfold w271_wp
  have hb1 : x_lcc n (x_fam b n r k).length k (c_lv (mm a)) ≤ mc ∧ x_lcs n (x_fam b n r k).length k (c_lv (mm a)) ≤ ms := by
    unfold pr_b at hb
    omega
  refine ⟨x_lcc n (x_fam b n r k).length k (c_lv (mm a)), x_lcs n (x_fam b n r k).length k (c_lv (mm a)), by omega, by omega, ha, c_aL ha h ho hnq hk h4 (Nat.le_refl _) (Nat.le_refl _) (fun M' m1 m2 m3 m4 m5 m6 m7 m8 m9 => ⟨(x_fam b n r k).length + 1, ?_⟩)⟩
  rw [Nat.zero_add, Nat.zero_add]
  have hck : Int32.toNatClampNeg (nI k) = k := nI_clamp (by omega)
  have hmem : ∀ j, j < (x_fam b n r k).length → M'.2.2.2.1 (20 + k) j = nI ((x_fam b n r k).getD j 0) ∧ (x_fam b n r k).getD j 0 < 2 ^ 31 := fun j hj => by
    have e : (x_fam b n r k)[j]? = some ((x_fam b n r k).getD j 0) := by
      rw [List.getD_eq_getElem?_getD, List.getElem?_eq_getElem hj]; rfl
    refine ⟨m9 j _ e, ?_⟩
    have h1 := (List.mem_filter.1 (List.mem_of_getElem? e)).1
    have h2 := (x_Lnm hn.1 _).1 h1
    omega
  have hM16 : M'.2.2.1 (20 + k) ≤ 4096 := (m1.2.2.1 k hk).2.1
  have loop : ∀ (u i : Nat), i + u = (x_fam b n r k).length → ∀ (q' l' : Nat) (pl' pf' : Int32) (g' gd' : Nat → Int32) (kc ks : Nat) (W : List Nat), pr_I M T l' pl' pf' g' W → pr_b kc ks l' T mc ms → W ++ x_fa (fun k' => x_set ((x_fam b n r k).getD k' 0)) u i = U ++ x_fa (fun k' => x_set ((x_fam b n r k).getD k' 0)) (x_fam b n r k).length 0 → w271_L9 cm np ns pa sa pp ss a mc ms post (u + 1) (nI k) (nI (x_fam b n r k).length) (nI i) d1 d2 d3 d4 d5 q' l' pl' pf' g' gd' q_o l_o o_r g_o g_t (va_up mm a M') kc ks := by
    intro u
    induction u with
    | zero =>
      intro i hi q' l' pl' pf' g' gd' kc ks W hI' hb' hW
      unfold w271_L9
      refine ⟨fun _ => ?_, fun z => absurd (nI_le (show (x_fam b n r k).length ≤ i by omega) (by omega)) z⟩
      have hW : W = U ++ x_fa (fun k' => x_set ((x_fam b n r k).getD k' 0)) (x_fam b n r k).length 0 := by rw [← hW]; exact (List.append_nil W).symm
      rw [hW] at hI'
      exact hp M' q' l' pl' pf' g' gd' m1 m2 m3 m5 hI'
    | succ u ih =>
      intro i hi q' l' pl' pf' g' gd' kc ks W hI' hb' hW
      unfold w271_L9
      refine ⟨fun z => absurd z (nI_ge (by omega) (by omega)), fun _ => ⟨ha, ha, b_in hk (by omega), ha, ?_⟩⟩
      rw [va_up_self, hck, nI_clamp (show i < 2 ^ 31 by omega)]
      refine ⟨b_in (by omega) (by omega), hk, ?_⟩
      rw [(hmem i (by omega)).1]
      refine c_sub2 (V := x_set ((x_fam b n r k).getD i 0)) (W := x_fa (fun k' => x_set ((x_fam b n r k).getD k' 0)) u (i + 1)) (c_setLine (hmem i (by omega)).2) hI' hb' (pr_len hM hW) (fun m s q1 l1 pl1 pf1 g1 gd1 hI1 _ hb1 => ?_)
      intro z9 e9
      rw [e9, nI_1]
      exact ih (i + 1) (by omega) q1 l1 pl1 pf1 g1 gd1 _ _ _ hI1 hb1 (by rw [List.append_assoc]; exact hW)
  have := loop (x_fam b n r k).length 0 (by omega) q_b l_b pl pf g gd _ _ U hI hb rfl
  rw [nI_0] at this
  exact this
end CTL
