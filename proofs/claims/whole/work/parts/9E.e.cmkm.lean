/-! PURE, the class: makeOfMatroid -/
/-- a letter's ghost: field, elements, rank, form, weights -/
abbrev x_LR := Nat × Nat × Nat × (Nat → Int) × (Nat → Int32)
noncomputable def x_kf (K : Nat) : Nat → Nat := Classical.choose (x_kpE K)
theorem x_kfp (K : Nat) : x_kp K (x_n K) (x_kf K) := Classical.choose_spec (x_kpE K)
theorem c_vid (mm : Nat → px_MR) (a : Nat) : va_up mm a (mm a) = mm := by
  funext i
  by_cases q : i = a
  · rw [q, va_up_self]
  · rw [va_up_ne _ _ q]
def x_us (v p n : Nat) (g : Nat → Int) (S : Nat) : Nat := (if v = 4 then x_ra (x_bg p g) S n (x_co n S) else x_ra (x_bg p g) S n 0) &&& S
noncomputable def x_mk1 (v : Nat) (vs : List Int32) (A B : x_LR) : x_LR :=
  if v = 3 then (A.1, A.2.1, A.2.1 - A.2.2.1, x_fd A.2.1 A.2.2.2.1, fun _ => 0)
  else if v = 4 ∨ v = 5 then (A.1, x_n (x_co A.2.1 (t_sts vs vs.length)), A.2.2.1 - x_n (x_us v A.1 A.2.1 A.2.2.2.1 (t_sts vs vs.length)), x_fr (x_n (x_co A.2.1 (t_sts vs vs.length))) (x_kf (x_co A.2.1 (t_sts vs vs.length))) (x_us v A.1 A.2.1 A.2.2.2.1 (t_sts vs vs.length)) A.2.2.2.1, fun _ => 0)
  else if v = 6 then (A.1, A.2.1 + B.2.1, A.2.2.1 + B.2.2.1, x_fj A.2.1 B.2.1 A.2.2.2.1 B.2.2.2.1, fun _ => 0)
  else A
def c_GL (np ns : Nat) (pp : Nat → px_PR) (sp sn sm : Nat → Nat) (sK : Nat → Nat → Nat → Int) (M : px_MR) (A : x_LR) : Prop := c_G np ns pp sp sn sm sK M A.1 A.2.1 A.2.2.1 A.2.2.2.1 A.2.2.2.2
theorem t_stsl {vs : List Int32} {n : Nat} (hw : t_wi vs (nI n) = true) (hn : n ≤ 12) : ∀ k, k ≤ vs.length → t_sts vs k < 2 ^ n
  | 0, _ => Nat.two_pow_pos n
  | k + 1, hk => by
    have ih := t_stsl hw hn k (by omega)
    show t_sts vs k ||| 2 ^ (vs.getD k 0).toNatClampNeg < 2 ^ n
    have h1 := of_decide_eq_true hw k (by omega)
    obtain ⟨c, hc, e⟩ := nI_of h1.1
    have h2 := h1.2
    rw [e] at h2
    have h3 := (nI_ltI hc (by omega)).1 h2
    rw [e, nI_clamp hc]
    exact Nat.or_lt_two_pow ih (Nat.pow_lt_pow_right (by decide) h3)
section CMM
variable {lm : Nat → Option Nat} {cm ns np a0 a1 : Nat} {sa pa : Nat → Nat} {ss : Nat → px_SR} {pp : Nat → px_PR} {sp sn sm : Nat → Nat} {sK : Nat → Nat → Nat → Int} {mc ms : Nat} {d1 d2 d3 d4 : Int32} {d5 : Option Nat} {q_o l_o q : Nat} {o_r : Int32} {g_o g_t : Nat → Int32} {sv : Nat} {sg sf s2 sd sh sx smn sr se : Int32} {gn : Nat → Int32} {mm : Nat → px_MR} {A B : x_LR} {post : Int32 → Int32 → Int32 → Int32 → Option Nat → Nat → Nat → Int32 → (Nat → Int32) → (Nat → Int32) → Nat → Int32 → Int32 → Int32 → Int32 → Int32 → Int32 → Int32 → Int32 → Int32 → (Nat → Int32) → (Nat → px_MR) → Nat → (Nat → Nat) → (Nat → px_PR) → Prop}
theorem c_asAny {P : Int32 → Nat → Int32 → Int32 → Int32 → Int32 → Int32 → Int32 → Int32 → Int32 → Int32 → (Nat → Int32) → Prop} {size : Nat} (hsz : size ≤ 12) (h : ∀ x, P x sv sg sf s2 sd sh sx smn sr se gn) : w257_wp P (nI size) sv sg sf s2 sd sh sx smn sr se gn := by
  have main : ∀ (u k : Nat) (x : Int32), k + u = size → w257_L4 P (u + 1) (nI size) x (nI k) sv sg sf s2 sd sh sx smn sr se gn := by
    intro u
    induction u with
    | zero =>
      intro k x hk
      have : k = size := by omega
      subst this
      exact ⟨fun _ => h x, fun _ => ⟨fun _ => h x, fun w => absurd (nI_le (Nat.le_refl k) (by omega)) w⟩⟩
    | succ u ih =>
      intro k x hk
      refine ⟨fun _ => h x, fun _ => ⟨fun _ => h x, fun _ => ⟨b_in (by omega) (by omega), fun z1 _ z2 e2 => ?_⟩⟩⟩
      rw [e2, nI_1]
      exact ih (k + 1) z1 (by omega)
  exact ⟨size + 1, main size 0 0 (by omega)⟩
theorem c_TPpok {pt1 : Nat → Option Nat} {c1 hd : Nat → Int32} {fl : Int32} {k : Nat → Nat} {j X np' : Nat} {pp' : Nat → px_PR} {pt0 pt : Nat → Option Nat} {c0 c : Nat → Int32} (h : c_TP pt1 c1 hd fl k X np pp pt0 c0 j np' pp' pt c) (h0 : ∀ e y, pt0 e = some y → y < np) : ∀ e y, pt e = some y → y < np' := fun e y hy => by
  by_cases q : e < X ∨ X + j ≤ e
  · rw [h.pout e q] at hy
    exact Nat.lt_of_lt_of_le (h0 e y hy) h.lo
  · obtain ⟨i, rfl⟩ : ∃ i, e = X + i := ⟨e - X, by omega⟩
    obtain ⟨a, b, t1, t2, t3, t4, t5, t6⟩ := h.prt i (by omega)
    rw [hy] at t3
    cases t3
    exact t5
theorem c_pokup {np' : Nat} {M : px_MR} (hpok : px_pok cm np mm) (hle : np ≤ np') (hM : ∀ e y, M.2.2.2.2.2 e = some y → y < np') : px_pok cm np' (va_up mm a0 M) := fun i hi e y hy => by
  by_cases q : i = a0
  · rw [q, va_up_self] at hy; exact hM e y hy
  · rw [va_up_ne _ _ q] at hy
    exact Nat.lt_of_lt_of_le (hpok i hi e y hy) hle
/-- the lengths of a matroid's arrays, each; and what is listed, expanded -/
def c_lv (M : px_MR) (k : Nat) : Nat := if k = 6 ∨ k = 7 ∨ k = 8 ∨ (20 ≤ k ∧ k < 24) then M.2.2.1 k else if 30 ≤ k ∧ k < 34 then (if M.2.2.2.1 5 (k - 30) = -1 then 0 else 1) else if k = 29 then (if M.2.1 10 = 0 then 0 else 1) else 0
def x_g6 (n : Nat) (g : Nat → Nat) (k : Nat) : Nat := if k = 6 then max (g 6) (2 ^ n) else if 29 ≤ k then 0 else g k
theorem c_bgl {M M' M'' : px_MR} {p rk : Int32} {n : Nat} (hb : c_bgn M M' p n rk) (h : M''.2 = (M'.2.1, M'.2.2.1, M''.2.2.2)) (h5 : M''.2.2.2.1 5 = M'.2.2.2.1 5) : c_lv M'' = x_g6 n (c_lv M) ∧ M''.2.1 11 = M.2.1 11 := by
  obtain ⟨b1, b2, b3, b4, b5, b6, b7, b8, b9, b10, b11⟩ := hb
  have h1 : M''.2.1 = M'.2.1 := by rw [h]
  have h2 : M''.2.2.1 = M'.2.2.1 := by rw [h]
  refine ⟨?_, by rw [h1]; exact b6⟩
  funext k
  unfold c_lv x_g6
  rw [h1, h2, h5]
  by_cases q : k = 6
  · subst q
    exact b7
  · rw [if_neg q]
    by_cases q2 : 29 ≤ k
    · rw [if_pos q2, if_neg (by omega)]
      by_cases q3 : 30 ≤ k ∧ k < 34
      · rw [if_pos q3, if_pos (b10 (k - 30) (by omega))]
      · rw [if_neg q3]
        by_cases q4 : k = 29
        · rw [if_pos q4, if_pos b5]
        · rw [if_neg q4]
    · rw [if_neg q2, b8 k q]
      dsimp only
      by_cases q3 : k = 6 ∨ k = 7 ∨ k = 8 ∨ (20 ≤ k ∧ k < 24)
      · rw [if_pos q3, if_pos q3]
      · rw [if_neg q3, if_neg q3, if_neg (by omega), if_neg (by omega), if_neg (by omega), if_neg (by omega)]
/-- what makeOfMatroid leaves behind -/
def c_mkP (ask : Bool) (mm : Nat → px_MR) (a0 a1 cm np ns : Nat) (pa : Nat → Nat) (pp : Nat → px_PR) (sp sn sm : Nat → Nat) (sK : Nat → Nat → Nat → Int) (l_o q : Nat) (A C : x_LR) (l_o' : Nat) (o_r' : Int32) (g_o' g_t' : Nat → Int32) (mm' : Nat → px_MR) (np' : Nat) (pa' : Nat → Nat) (pp' : Nat → px_PR) : Prop :=
  l_o' = o_ln l_o C.2.1 ∧ o_Ok l_o' o_r' g_o' g_t' (max q C.2.1) ∧ (∃ M1 M'', mm' = va_up (va_up mm a1 M1) a0 M'' ∧ (if ask = true then c_Q (mm a1) M1 A.2.1 (x_bg A.1 A.2.2.2.1) else M1 = mm a1) ∧ c_GL np' ns pp' sp sn sm sK M'' C ∧ c_lv M'' = x_g6 C.2.1 (c_lv (mm a0)) ∧ M''.2.1 11 = (mm a0).2.1 11) ∧ np ≤ np' ∧ np' ≤ np + 12 ∧ (∀ x, x < np → pa' x = pa x) ∧ (∀ x, x < np → pp' x = pp x) ∧ c_PO np' ns pp' ∧ px_pok cm np' mm'
theorem c_v172 {v : Nat} {P : Int32 → Prop} (hv : v < 21) (h : P (nI v)) : w172_wp v P := ⟨hv, by rw [t_ord v hv]; exact h⟩
theorem c_vs3 : ∀ v, v < 21 → (px_vs.getD v 0 = 3 ↔ v = 3) ∧ (px_vs.getD v 0 = 4 ↔ v = 4) ∧ (px_vs.getD v 0 = 5 ↔ v = 5) := by decide
theorem c_mk3 (ha0 : a0 < cm) (ha1 : a1 < cm) (hne : a0 ≠ a1) (hO : c_PO np ns pp) (hpok : px_pok cm np mm) (ho : o_Ok l_o o_r g_o g_t q) (hG : c_GL np ns pp sp sn sm sK (mm a1) A) (hv : c_vac (mm a0)) (hs2 : t_la lm s2 = none) (hmc : c_bgc l_o (mm a0) A.2.1 + A.2.1 ≤ mc) (hms : c_bgs l_o (mm a0) A.2.1 + 3 * A.2.1 ≤ ms)
    (h : ∀ q_o' l_o' o_r' g_o' g_t' mm' np' pa' pp', c_mkP false mm a0 a1 cm np ns pa pp sp sn sm sK l_o q A (x_mk1 3 [] A A) l_o' o_r' g_o' g_t' mm' np' pa' pp' → post d1 d2 d3 d4 d5 q_o' l_o' o_r' g_o' g_t' 3 sg sf s2 sd sh sx smn sr se gn mm' np' pa' pp') : w256_wp lm cm ns sa ss a0 a1 mc ms post d1 d2 d3 d4 d5 q_o l_o o_r g_o g_t 3 sg sf s2 sd sh sx smn sr se gn mm np pa pp := by
  obtain ⟨p, n, r, g, w⟩ := A
  have hG' : c_G np ns pp sp sn sm sK (mm a1) p n r g w := hG
  obtain ⟨b1, b2, b3, b4, b5, b6, b7, b8, b9⟩ := id hG'
  have hn := b3.1
  have hr : r ≤ n := by
    obtain ⟨S, hS⟩ := b3.2.2.1
    have h1 := b3.2.1 S hS
    have := x_nlen hn h1.1
    omega
  unfold w256_wp w256_L132
  refine c_at26 ⟨fun _ => ⟨ha1, ?_⟩, fun a e => by rw [hs2] at e; simp at e⟩
  rw [b5.1.1]
  refine c_asAny hn (fun x => ⟨by decide, c_v172 (by decide) ?_⟩)
  rw [nI_clamp (show 3 < 2 ^ 31 by decide)]
  refine ⟨b_in (by decide) (by decide), fun _ => ?_, fun z => absurd z (by decide), fun z => absurd z (by decide), fun z => absurd rfl z⟩
  refine ⟨_, _, by rw [Nat.zero_add]; exact hmc, by rw [Nat.zero_add]; exact hms, ha0, ?_⟩
  refine c_turn (p := nI p) (s := x_sgn2 p n r (x_Fg p g)) (cc := c_cl ((mm a1).2.2.2.1 2)) (tb := c_tb pp) ha0 ha1 hne hn hr b1 b5.1.1 b5.1.2.1 b5.1.2.2.2.1 hv.2.1 ho b6 (fun S _ => x_sgn3 b3 S) hpok (c_PTg hO b8) (Nat.le_refl _) (Nat.le_refl _) (fun q' o' g' t' M' np' pa' pp' pt c f ho' hb hpa hT hf => ?_)
  obtain ⟨r1, r2, r3⟩ := c_Gd hO hG' hv hb hT hf
  refine h _ _ _ _ _ _ _ _ _ ⟨rfl, ho', ⟨mm a1, _, ?_, rfl, r2, c_bgl hb rfl rfl⟩, hT.lo, Nat.le_trans hT.hi (by omega), hpa, hT.low, r1, c_pokup hpok hT.lo (c_TPpok hT (fun e y hy => hpok a0 ha0 e y hy))⟩
  rw [show va_up mm a1 (mm a1) = mm from c_vid mm a1]
theorem c_mk7 (hsv : sv = 7) (ha0 : a0 < cm) (ha1 : a1 < cm) (hne : a0 ≠ a1) (hO : c_PO np ns pp) (hpok : px_pok cm np mm) (ho : o_Ok l_o o_r g_o g_t q) (hG : c_GL np ns pp sp sn sm sK (mm a1) A) (hv : c_vac (mm a0)) (hs2 : t_la lm s2 = none) (hmc : c_bgc l_o (mm a0) A.2.1 + A.2.1 ≤ mc) (hms : c_bgs l_o (mm a0) A.2.1 + 3 * A.2.1 ≤ ms)
    (h : ∀ q_o' l_o' o_r' g_o' g_t' mm' np' pa' pp', c_mkP false mm a0 a1 cm np ns pa pp sp sn sm sK l_o q A (x_mk1 7 [] A A) l_o' o_r' g_o' g_t' mm' np' pa' pp' → post d1 d2 d3 d4 d5 q_o' l_o' o_r' g_o' g_t' sv sg sf s2 sd sh sx smn sr se gn mm' np' pa' pp') : w256_wp lm cm ns sa ss a0 a1 mc ms post d1 d2 d3 d4 d5 q_o l_o o_r g_o g_t sv sg sf s2 sd sh sx smn sr se gn mm np pa pp := by
  subst hsv
  obtain ⟨p, n, r, g, w⟩ := A
  have hG' : c_G np ns pp sp sn sm sK (mm a1) p n r g w := hG
  obtain ⟨b1, b2, b3, b4, b5, b6, b7, b8, b9⟩ := id hG'
  have hn := b3.1
  unfold w256_wp w256_L132
  refine c_at26 ⟨fun _ => ⟨ha1, ?_⟩, fun a e => by rw [hs2] at e; simp at e⟩
  rw [b5.1.1]
  refine c_asAny hn (fun x => ⟨by decide, c_v172 (by decide) ?_⟩)
  rw [nI_clamp (show 7 < 2 ^ 31 by decide)]
  refine ⟨b_in (by decide) (by decide), fun z => absurd z (by decide), fun z => absurd z (by decide), fun z => absurd z (by decide), fun _ _ _ => ?_⟩
  refine ⟨_, _, by rw [Nat.zero_add]; exact hmc, by rw [Nat.zero_add]; exact hms, ha0, ?_⟩
  refine c_repeat (p := nI p) (s := x_sgn2 p n r (x_Fg p g)) (cc := c_cl ((mm a1).2.2.2.1 2)) (tb := c_tb pp) ha0 ha1 hne hn b1 b5.1.1 b5.1.2.1 b5.1.2.2.2.1 hv.2.1 ho b6 (fun S _ => x_sgn3 b3 S) hpok (c_PTg hO b8) (Nat.le_refl _) (Nat.le_refl _) (fun q' o' g' t' M' np' pa' pp' pt c w' f ho' hb hpa hT hw _ hf => ?_)
  obtain ⟨r1, r2, r3⟩ := c_Gc hO hG' hv hb hT hw hf
  refine h _ _ _ _ _ _ _ _ _ ⟨rfl, ho', ⟨mm a1, _, ?_, rfl, r2, c_bgl hb rfl rfl⟩, hT.lo, Nat.le_trans hT.hi (by omega), hpa, hT.low, r1, c_pokup hpok hT.lo (c_TPpok hT (fun e y hy => hpok a0 ha0 e y hy))⟩
  rw [show va_up mm a1 (mm a1) = mm from c_vid mm a1]
theorem c_mk6 {a2 : Nat} (hsv : sv = 6) (ha0 : a0 < cm) (ha1 : a1 < cm) (ha2 : a2 < cm) (hne : a0 ≠ a1) (hne2 : a0 ≠ a2) (hO : c_PO np ns pp) (hpok : px_pok cm np mm) (ho : o_Ok l_o o_r g_o g_t q) (hG : c_GL np ns pp sp sn sm sK (mm a1) A) (hG2 : c_GL np ns pp sp sn sm sK (mm a2) B) (hp : A.1 = B.1) (hnn : A.2.1 + B.2.1 ≤ 12) (hv : c_vac (mm a0)) (hs2 : t_la lm s2 = some a2) (hmc : c_bgc l_o (mm a0) (A.2.1 + B.2.1) + (A.2.1 + B.2.1) ≤ mc) (hms : c_bgs l_o (mm a0) (A.2.1 + B.2.1) + 3 * (A.2.1 + B.2.1) ≤ ms)
    (h : ∀ q_o' l_o' o_r' g_o' g_t' mm' np' pa' pp', c_mkP false mm a0 a1 cm np ns pa pp sp sn sm sK l_o q A (x_mk1 6 [] A B) l_o' o_r' g_o' g_t' mm' np' pa' pp' → post d1 d2 d3 d4 d5 q_o' l_o' o_r' g_o' g_t' sv sg sf s2 sd sh sx smn sr se gn mm' np' pa' pp') : w256_wp lm cm ns sa ss a0 a1 mc ms post d1 d2 d3 d4 d5 q_o l_o o_r g_o g_t sv sg sf s2 sd sh sx smn sr se gn mm np pa pp := by
  subst hsv
  obtain ⟨p, n, r, g, w⟩ := A
  obtain ⟨p2, n2, r2, g2, w2⟩ := B
  have hp : p = p2 := hp
  have hnn : n + n2 ≤ 12 := hnn
  subst hp
  have hG' : c_G np ns pp sp sn sm sK (mm a1) p n r g w := hG
  have hG2' : c_G np ns pp sp sn sm sK (mm a2) p n2 r2 g2 w2 := hG2
  obtain ⟨b1, b2, b3, b4, b5, b6, b7, b8, b9⟩ := id hG'
  obtain ⟨e1, e2, e3, e4, e5, e6, e7, e8, e9⟩ := id hG2'
  have hn := b3.1
  unfold w256_wp w256_L132
  refine c_at26 ⟨fun e => by rw [hs2] at e; simp at e, fun a e => ⟨ha1, ?_⟩⟩
  rw [hs2] at e
  cases e
  rw [b5.1.1]
  refine c_asAny hn (fun x => ⟨by decide, c_v172 (by decide) ?_⟩)
  rw [nI_clamp (show 6 < 2 ^ 31 by decide)]
  refine ⟨b_in (by decide) (by decide), fun z => absurd z (by decide), fun z => absurd z (by decide), fun z => absurd z (by decide), fun _ _ _ => ?_⟩
  refine ⟨_, _, by rw [Nat.zero_add]; exact hmc, by rw [Nat.zero_add]; exact hms, ha0, ?_⟩
  refine c_join (p := nI p) (n := n) (n2 := n2) (s := x_sgn2 p n r (x_Fg p g)) (t := x_sgn2 p n2 r2 (x_Fg p g2)) (cc := c_cl ((mm a1).2.2.2.1 2)) (cc2 := c_cl ((mm a2).2.2.2.1 2)) (tb := c_tb pp) (tb2 := c_tb pp) ha0 ha1 ha2 hne hne2 hnn b1 b5.1.1 b5.1.2.1 e5.1.1 e5.1.2.1 b5.1.2.2.2.1 e5.1.2.2.2.1 hv.2.1 ho b6 (fun S _ => x_sgn3 b3 S) e6 (fun S _ => x_sgn3 e3 S) hpok (c_PTg hO b8) (c_PTg hO e8) (Nat.le_refl _) (Nat.le_refl _) (fun q' o' g' t' M' np1 pp1 pt1 c1 np' pa' pp' pt c tb3 f ho' hb hpa hT1 hT2 hf => ?_)
  have ehd : x_hd (mm a2).2.2.2.2.2 (c_cl ((mm a2).2.2.2.1 2)) 0 0 tb3 n2 = x_hd (mm a2).2.2.2.2.2 (c_cl ((mm a2).2.2.2.1 2)) 0 0 (c_tb pp1) n2 := by
    funext y
    unfold x_hd
    simp only [Nat.zero_testBit, Bool.false_and]
  rw [ehd] at hT2
  obtain ⟨r1, r2', r3⟩ := c_Gj hO hG' hG2' hnn hv hb hT1 hT2 hf
  refine h _ _ _ _ _ _ _ _ _ ⟨rfl, ho', ⟨mm a1, _, ?_, rfl, r2', c_bgl hb rfl rfl⟩, Nat.le_trans hT1.lo hT2.lo, ?_, hpa, fun x hx => ?_, r1, c_pokup hpok (Nat.le_trans hT1.lo hT2.lo) (c_TPpok hT2 (c_TPpok hT1 (fun e y hy => hpok a0 ha0 e y hy)))⟩
  · rw [show va_up mm a1 (mm a1) = mm from c_vid mm a1]
  · have h1 := hT1.hi
    have h2 := hT2.hi
    omega
  · rw [hT2.low x (Nat.lt_of_lt_of_le hx hT1.lo), hT1.low x hx]
theorem c_mk45 {vs : List Int32} (hsv : sv = 4 ∨ sv = 5) (ha0 : a0 < cm) (ha1 : a1 < cm) (hne : a0 ≠ a1) (hO : c_PO np ns pp) (hpok : px_pok cm np mm) (ho : o_Ok l_o o_r g_o g_t q) (hG : c_GL np ns pp sp sn sm sK (mm a1) A) (hv : c_vac (mm a0)) (hs2 : t_la lm s2 = none) (hvs1 : smn = nI vs.length) (hvs2 : ∀ j x, j < 160 → vs[j]? = some x → gn j = x) (hvs3 : vs.length ≤ A.2.1) (hvs4 : t_wi vs (nI A.2.1) = true) (hmc : c_rc (mm a1) A.2.1 + (c_bgc l_o (mm a0) (x_mk1 sv vs A A).2.1 + (x_mk1 sv vs A A).2.1) ≤ mc) (hms : c_rs (mm a1) A.2.1 + (c_bgs l_o (mm a0) (x_mk1 sv vs A A).2.1 + 3 * (x_mk1 sv vs A A).2.1) ≤ ms)
    (h : ∀ q_o' l_o' o_r' g_o' g_t' mm' np' pa' pp', c_mkP true mm a0 a1 cm np ns pa pp sp sn sm sK l_o q A (x_mk1 sv vs A A) l_o' o_r' g_o' g_t' mm' np' pa' pp' → post d1 d2 d3 d4 d5 q_o' l_o' o_r' g_o' g_t' sv sg sf s2 sd sh sx smn sr se gn mm' np' pa' pp') : w256_wp lm cm ns sa ss a0 a1 mc ms post d1 d2 d3 d4 d5 q_o l_o o_r g_o g_t sv sg sf s2 sd sh sx smn sr se gn mm np pa pp := by
  subst hvs1
  obtain ⟨p, n, r, g, w⟩ := A
  have hG' : c_G np ns pp sp sn sm sK (mm a1) p n r g w := hG
  obtain ⟨b1, b2, b3, b4, b5, b6, b7, b8, b9⟩ := id hG'
  have hvs3 : vs.length ≤ n := hvs3
  have hvs4 : t_wi vs (nI n) = true := hvs4
  have hn := b3.1
  have hM := b5.1.2.2.1
  have hS := t_stsl hvs4 hn vs.length (Nat.le_refl _)
  have hsv21 : sv < 21 := by omega
  have hmk : x_mk1 sv vs (p, n, r, g, w) (p, n, r, g, w) = (p, x_n (x_co n (t_sts vs vs.length)), r - x_n (x_us sv p n g (t_sts vs vs.length)), x_fr (x_n (x_co n (t_sts vs vs.length))) (x_kf (x_co n (t_sts vs vs.length))) (x_us sv p n g (t_sts vs vs.length)) g, fun _ => 0) := by
    unfold x_mk1
    rw [if_neg (by omega), if_pos hsv]
  rw [hmk] at hmc hms h
  generalize hSS : t_sts vs vs.length = S at *
  have hk := x_kfp (x_co n S)
  generalize hkk : x_kf (x_co n S) = k at *
  have hcoS : x_co n S < 2 ^ n := x_col hS
  have hn' : x_n (x_co n S) ≤ 12 := Nat.le_trans (x_nlen hn hcoS) hn
  generalize hUU : x_us sv p n g S = U at *
  have hU : x_Uc p n g S U ∨ x_Ud p n g S U := by
    rw [← hUU]
    unfold x_us
    rcases hsv with z | z
    · rw [if_pos z]; exact Or.inr (x_UdR hM hS)
    · rw [if_neg (by omega)]; exact Or.inl (x_UcR hM hS)
  have u1 : U < 2 ^ n := hU.elim (fun z => z.1) (fun z => z.1)
  have u2 : ∀ e, U.testBit e = true → S.testBit e = true := hU.elim (fun z => z.2.1) (fun z => z.2.1)
  have u3 := hU.elim (fun z => z.2.2.1) (fun z => z.2.2.1)
  have hg' := x_frG b2 b3 hS u1 u2 hk hn' u3
  have hr : r ≤ n := by
    obtain ⟨B, hB⟩ := hM.2.1
    have h1 := hM.2.2.1 B hB
    have := x_nlen hn h1.1
    omega
  have hUr : x_n U ≤ r := by
    obtain ⟨T, t1, t2, t3⟩ := u3
    have h1 := (b3.2.1 T t1).2
    have h2 : x_n U ≤ x_n T := x_cnle 12 (fun i _ hi => t2 i hi)
    omega
  have hr2 : r - x_n U ≤ x_n (x_co n S) := by
    obtain ⟨T, hT⟩ := hg'.2.2.1
    have h1 := hg'.2.1 T hT
    have := x_nlen hn' h1.1
    omega
  have hn4096 : 2 ^ n ≤ 4096 := Nat.pow_le_pow_right (n := 2) (by decide) hn
  -- remove, once what is used is known
  have rem : ∀ (M1 : px_MR) (kc ks : Nat), c_Q (mm a1) M1 n (x_bg p g) → kc = c_rc (mm a1) n → ks = c_rs (mm a1) n → ∃ m91 s91 : Nat, kc + m91 ≤ mc ∧ ks + s91 ≤ ms ∧ a0 < cm ∧ (w264_wp a0 cm ns sa ss a1 m91 s91 (fun v53 v54 v55 v56 v57 v58 v59 v60 v61 => post d1 d2 d3 d4 d5 v53 v54 v55 v56 v57 sv sg sf s2 sd sh sx (nI vs.length) sr se gn v58 v59 v60 v61) (nI S) (nI U) q_o l_o o_r g_o g_t (va_up mm a1 M1) np pa pp) := fun M1 kc ks hM1 ekc eks => by
    have hk1 : c_kn M1 n r (x_bg p g) ∧ c_fr (mm a1) M1 := ⟨(c_Qk b5 hM1).1, (c_Qk b5 hM1).2.1⟩
    have hG1 := c_Ga hG' hk1.1 hk1.2
    have hm1 : va_up mm a1 M1 a1 = M1 := va_up_self _ _ _
    have hm0 : va_up mm a1 M1 a0 = mm a0 := va_up_ne _ _ hne
    obtain ⟨g1, g2, g3, g4, g5, g6, g7, g8, g9⟩ := id hG1
    have hpok1 : px_pok cm np (va_up mm a1 M1) := c_pokup hpok (Nat.le_refl _) (fun e y hy => by rw [hk1.2.2.2.2] at hy; exact hpok a1 ha1 e y hy)
    refine ⟨c_bgc l_o (mm a0) (x_n (x_co n S)) + x_n (x_co n S), c_bgs l_o (mm a0) (x_n (x_co n S)) + 3 * x_n (x_co n S), by rw [ekc]; exact hmc, by rw [eks]; exact hms, ha0, ?_⟩
    refine c_remove (mm := va_up mm a1 M1) (p := nI p) (n := n) (r := r) (S := S) (U := U) (m := x_n (x_co n S)) (k := k) (s := x_sgn2 p n r (x_Fg p g)) (cc := c_cl (M1.2.2.2.1 2)) (tb := c_tb pp) ha0 ha1 hne hn (by rw [hm1]; exact g1) (by rw [hm1]; exact g5.1.1) (by rw [hm1]; exact g5.1.2.1) (by rw [hm1]; exact g5.1.2.2.2.1) (by rw [hm0]; exact hv.2.1) ho (by rw [hm1]; exact g6) (fun S _ => x_sgn3 b3 S) hpok1 (by rw [hm1]; exact c_PTg hO g8) hS u1 u2 hk rfl hUr hr2 hr (by rw [hm0]; exact Nat.le_refl _) (by rw [hm0]; exact Nat.le_refl _) (fun q' o' g' t' M' np' pa' pp' pt c f ho' hb hpa hT hf => ?_)
    rw [hm0] at hb
    rw [hm1, hm0] at hT
    obtain ⟨r1, r2, r3⟩ := c_Gr hO hG1 hv hS hk hn' hU hb hT hf
    exact h _ _ _ _ _ _ _ _ _ ⟨rfl, ho', ⟨M1, _, rfl, hM1, r2, c_bgl hb rfl rfl⟩, hT.lo, Nat.le_trans hT.hi (by omega), hpa, hT.low, r1, c_pokup hpok1 hT.lo (c_TPpok hT (fun e y hy => hpok a0 ha0 e y hy))⟩
  have hclamp : (nI sv).toNatClampNeg = sv := nI_clamp (by omega)
  have hvsg := c_vs3 sv hsv21
  unfold w256_wp w256_L132
  refine c_at26 ⟨fun _ => ⟨ha1, ?_⟩, fun a e => by rw [hs2] at e; simp at e⟩
  rw [b5.1.1]
  refine c_asSet hn hvs3 hvs2 hvs4 ⟨hsv21, c_v172 hsv21 ?_⟩
  rw [hclamp, hSS]
  refine ⟨b_in hsv21 (by omega), fun z => absurd (hvsg.1.1 z) (by omega), fun z => ?_, fun z => ?_, fun _ z4 z5 => ?_⟩
  · have z := hvsg.2.1.1 z
    refine ⟨ha1, c_all ha1 hn b5.1.1 ?_⟩
    refine ⟨c_rc (mm a1) n, c_rs (mm a1) n, by rw [Nat.zero_add]; exact Nat.le_trans (Nat.le_add_right _ _) hmc, by rw [Nat.zero_add]; exact Nat.le_trans (Nat.le_add_right _ _) hms, ha1, ?_⟩
    rw [b_coS hn hS]
    refine c_raisers ha1 b5.1 b5.2.1 hS hcoS (Nat.le_refl _) (Nat.le_refl _) (fun M1 hQ => ?_)
    have e : x_ra (x_bg p g) S n (x_co n S) &&& S = U := by rw [← hUU]; unfold x_us; rw [if_pos z]
    rw [e]
    exact rem M1 _ _ hQ (Nat.zero_add _) (Nat.zero_add _)
  · have z := hvsg.2.2.1 z
    refine ⟨c_rc (mm a1) n, c_rs (mm a1) n, by rw [Nat.zero_add]; exact Nat.le_trans (Nat.le_add_right _ _) hmc, by rw [Nat.zero_add]; exact Nat.le_trans (Nat.le_add_right _ _) hms, ha1, ?_⟩
    refine c_raisers (th := 0) ha1 b5.1 b5.2.1 hS (Nat.two_pow_pos n) (Nat.le_refl _) (Nat.le_refl _) (fun M1 hQ => ?_)
    have e : x_ra (x_bg p g) S n 0 &&& S = U := by rw [← hUU]; unfold x_us; rw [if_neg (by omega)]
    rw [e]
    exact rem M1 _ _ hQ (Nat.zero_add _) (Nat.zero_add _)
  · rcases hsv with z | z
    · exact absurd (hvsg.2.1.2 z) z4
    · exact absurd (hvsg.2.2.2 z) z5
end CMM
