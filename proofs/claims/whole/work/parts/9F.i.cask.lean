/-! PURE, the class: asking, one matroid -/
abbrev c_aT := Int32 → Int32 → Int32 → Int32 → Int32 → Option Nat → Nat → Nat → Int32 → (Nat → Int32) → (Nat → Int32) → (Nat → px_MR) → Prop
section CAK
variable {mc ms : Nat} {d1 d2 d3 d4 : Int32} {d5 : Option Nat} {lm : Nat → Option Nat} {q_o l_o : Nat} {o_r : Int32} {g_o g_t : Nat → Int32} {mf mz mh : Int32} {ml : Option Nat} {gl gm gh : Nat → Int64} {vh vg : Option Nat} {v1 v2 v3 v4 v5 v6 v7 v8 v9 : Int32} {gi gp gq gk gr gg : Nat → Int32} {mm : Nat → px_MR} {cm np ns : Nat} {hm pa sa : Nat → Nat} {pp : Nat → px_PR} {ss : Nat → px_SR} {G : x_GS} {post : c_aT} {m : Int32}
theorem c_IVo {x : Int32} (hIV : c_IV G lm d5 cm mm np ns pp ss sa o_r g_o g_t mf mz mh ml gl gm gh vh vg v1 v2 v4 v7 v8 gi) : (t_la lm x = none ∧ x_lt G.1 x = none) ∨ ∃ f a A, f < 26 ∧ x = nI f ∧ lm f = some a ∧ G.1 f = some A ∧ t_la lm x = some a ∧ x_lt G.1 x = some A ∧ a < cm ∧ c_kn (mm a) A.2.1 A.2.2.1 (x_bg A.1 A.2.2.2.1) ∧ (mm a).2.1 12 = nI A.1 ∧ (∀ e, e < A.2.1 → (mm a).2.2.2.1 3 e = A.2.2.2.2 e) ∧ (∀ S, S < 2 ^ A.2.1 → (mm a).2.2.2.1 6 S = x_sgn2 A.1 A.2.1 A.2.2.1 (x_Fg A.1 A.2.2.2.1) S) ∧ G.2.1 f = c_lv (mm a) ∧ x_p4 (G.2.1 f) ∧ x_pm A.1 ∧ x_gh A.1 A.2.1 A.2.2.1 A.2.2.2.1 ∧ ∃ q, A.2.1 ≤ q ∧ o_Ok G.2.2.2.1 o_r g_o g_t q := by
  obtain ⟨q, sp, sn, sm, sK, hP, hL, hT, hvh, hvg, hs4, hw1, hw2, hw3⟩ := hIV
  rcases c_LTo (x := x) hL with z | ⟨f, a, A, f1, f2, f3, f4, f5, f6, f7, f8⟩
  · exact Or.inl z
  · obtain ⟨a', t1, hac, hG, hAq, hsk⟩ := c_LTl hL f1 f4
    rw [f3] at t1
    cases t1
    have hk : c_kn (mm a) A.2.1 A.2.2.1 (x_bg A.1 A.2.2.2.1) := f8.2.2.2.2.1
    have h4 : x_p4 (G.2.1 f) := by
      rcases hs4 f (Nat.lt_trans f1 (by decide)) with z | z
      · have h6 : 16 ≤ c_lv (mm a) 6 := (c_knv hk).1
        rw [← hsk, z 6] at h6
        exact absurd h6 (by decide)
      · exact z
    exact Or.inr ⟨f, a, A, f1, f2, f3, f4, f5, f6, f7, hk, f8.1, f8.2.2.2.2.2.2.1, f8.2.2.2.2.2.1, hsk, h4, f8.2.1, f8.2.2.1, q, hAq, hP.1⟩
/-- asked, all holds as it did, but for the lengths -/
theorem c_IVa {f a : Nat} {A : x_LR} {M1 : px_MR} {g : Nat → Nat} (hIV : c_IV G lm d5 cm mm np ns pp ss sa o_r g_o g_t mf mz mh ml gl gm gh vh vg v1 v2 v4 v7 v8 gi) (hf : f < 26) (hA : G.1 f = some A) (ha : lm f = some a) (hac : a < cm) (hk : c_kn M1 A.2.1 A.2.2.1 (x_bg A.1 A.2.2.2.1)) (hfr : c_fr (mm a) M1) (hR : c_R (mm a) A.2.1 (x_bg A.1 A.2.2.2.1) → c_R M1 A.2.1 (x_bg A.1 A.2.2.2.1)) (hlv : c_lv M1 = g) (h4 : x_p4 g) : c_IV (G.1, va_up G.2.1 f g, G.2.2) lm d5 cm (va_up mm a M1) np ns pp ss sa o_r g_o g_t mf mz mh ml gl gm gh vh vg v1 v2 v4 v7 v8 gi := by
  obtain ⟨q, sp, sn, sm, sK, hP, hL, hT, hvh, hvg, hs4, hw1, hw2, hw3⟩ := hIV
  obtain ⟨g1, g2, g3⟩ := c_ask1 hP hL hT hf hA ha hac hk hfr hR hlv
  exact ⟨q, sp, sn, sm, sK, g1, g2, g3, hvh, hvg, x_s4u hs4 h4, hw1, hw2, hw3⟩
theorem c_qN (hIV : c_IV G lm d5 cm mm np ns pp ss sa o_r g_o g_t mf mz mh ml gl gm gh vh vg v1 v2 v4 v7 v8 gi) (h : post (match x_lt G.1 m with | none => -1 | some A => nI A.2.1) d1 d2 d3 d4 d5 q_o l_o o_r g_o g_t mm) : w338_wp lm cm np ns pa sa pp ss post m d1 d2 d3 d4 d5 q_o l_o o_r g_o g_t mm := by
  refine c_at26 ?_
  rcases c_IVo (x := m) hIV with ⟨z1, z2⟩ | ⟨f, a, A, f1, f2, f3, f4, f5, f6, f7, f8, f9⟩
  · rw [z1]; rw [z2] at h
    exact ⟨fun _ => ⟨fun _ => h, fun _ e => (by cases e)⟩, fun _ e => (by cases e)⟩
  · rw [f5]; rw [f6] at h
    refine ⟨fun e => (by cases e), fun a5 e => ?_⟩
    cases e
    rw [f8.1.1]
    exact ⟨f7, fun e => (by cases e), fun _ _ => h⟩
theorem c_qF (hIV : c_IV G lm d5 cm mm np ns pp ss sa o_r g_o g_t mf mz mh ml gl gm gh vh vg v1 v2 v4 v7 v8 gi) (h : post (match x_lt G.1 m with | none => -1 | some A => nI A.1) d1 d2 d3 d4 d5 q_o l_o o_r g_o g_t mm) : w339_wp lm cm np ns pa sa pp ss post m d1 d2 d3 d4 d5 q_o l_o o_r g_o g_t mm := by
  refine c_at26 ?_
  rcases c_IVo (x := m) hIV with ⟨z1, z2⟩ | ⟨f, a, A, f1, f2, f3, f4, f5, f6, f7, f8, f9, _⟩
  · rw [z1]; rw [z2] at h
    exact ⟨fun _ => ⟨fun _ => h, fun _ e => (by cases e)⟩, fun _ e => (by cases e)⟩
  · rw [f5]; rw [f6] at h
    refine ⟨fun e => (by cases e), fun a5 e => ?_⟩
    cases e
    rw [f9]
    exact ⟨f7, fun e => (by cases e), fun _ _ => h⟩
/-- a set of the first n elements -/
def x_hs (n : Nat) (s : Int32) : Option Nat := if s < 0 then none else if s.toNatClampNeg < 2 ^ n then some s.toNatClampNeg else none
theorem x_hsS {n S : Nat} {s : Int32} (h : x_hs n s = some S) : s = nI S ∧ S < 2 ^ n := by
  unfold x_hs at h
  by_cases z : s < 0
  · rw [if_pos z] at h; cases h
  · rw [if_neg z] at h
    obtain ⟨c, hc, e⟩ := nI_of z
    rw [e, nI_clamp hc] at h
    by_cases w : c < 2 ^ n
    · rw [if_pos w] at h; cases h; exact ⟨e, w⟩
    · rw [if_neg w] at h; cases h
theorem c_holds {P : Int32 → Nat → Nat → Int32 → (Nat → Int32) → (Nat → Int32) → (Nat → px_MR) → Prop} {a n : Nat} {s : Int32} (hac : a < cm) (hn : n ≤ 12) (h13 : (mm a).2.1 13 = nI n) (h : P (if (x_hs n s).isSome = true then 1 else 0) q_o l_o o_r g_o g_t mm) : w341_wp a cm np ns pa sa pp ss P s q_o l_o o_r g_o g_t mm := by
  have h2n : 2 ^ n ≤ 4096 := Nat.pow_le_pow_right (n := 2) (by decide) hn
  have hp0 := Nat.two_pow_pos n
  unfold w341_wp w341_L16 w341_L17
  unfold x_hs at h
  refine ⟨fun z => ?_, fun z => ⟨hac, c_all hac hn h13 ⟨fun w => ?_, fun w => ?_⟩⟩⟩
  · rw [if_pos z] at h
    exact ⟨rfl, h⟩
  · obtain ⟨S, hS, e⟩ := nI_of z
    rw [if_neg z] at h
    rw [e] at w h
    rw [nI_clamp hS] at h
    have hlt := (nI_ltI (show 2 ^ n - 1 < 2 ^ 31 by omega) hS).1 w
    rw [if_neg (show ¬ S < 2 ^ n by omega)] at h
    exact ⟨rfl, h⟩
  · obtain ⟨S, hS, e⟩ := nI_of z
    rw [if_neg z] at h
    rw [e] at w h
    rw [nI_clamp hS] at h
    have hlt : S < 2 ^ n := Classical.byContradiction (fun w2 => w ((nI_ltI (show 2 ^ n - 1 < 2 ^ 31 by omega) hS).2 (by omega)))
    rw [if_pos hlt] at h
    exact ⟨rfl, h⟩
/-- rank -/
theorem c_qR {s : Int32} (hIV : c_IV G lm d5 cm mm np ns pp ss sa o_r g_o g_t mf mz mh ml gl gm gh vh vg v1 v2 v4 v7 v8 gi) (hmc : ∀ A S, x_lt G.1 m = some A → x_hs A.2.1 s = some S → (if G.2.1 m.toNatClampNeg 7 < 2 ^ A.2.1 then 1 else 0) ≤ mc ∧ (if G.2.1 m.toNatClampNeg 7 < 2 ^ A.2.1 then 2 ^ A.2.1 else 0) ≤ ms)
    (h0 : (∀ A, x_lt G.1 m = some A → x_hs A.2.1 s = none) → post (-1) d1 d2 d3 d4 d5 q_o G.2.2.2.1 o_r g_o g_t mm)
    (h1 : ∀ A S mm', x_lt G.1 m = some A → x_hs A.2.1 s = some S → c_IV (G.1, va_up G.2.1 m.toNatClampNeg (x_g7 A.2.1 (G.2.1 m.toNatClampNeg)), G.2.2) lm d5 cm mm' np ns pp ss sa o_r g_o g_t mf mz mh ml gl gm gh vh vg v1 v2 v4 v7 v8 gi → post (nI (x_rk (x_bg A.1 A.2.2.2.1) S)) d1 d2 d3 d4 d5 q_o G.2.2.2.1 o_r g_o g_t mm') : w340_wp lm cm np ns pa sa pp ss mc ms post m s d1 d2 d3 d4 d5 q_o G.2.2.2.1 o_r g_o g_t mm := by
  refine c_at26 ?_
  rcases c_IVo (x := m) hIV with ⟨z1, z2⟩ | ⟨f, a, A, f1, f2, f3, f4, f5, f6, f7, f8, f9, f10, f11, f12, f13, f14⟩
  · rw [z1]
    have := h0 (fun A e => by rw [z2] at e; cases e)
    exact ⟨fun _ => ⟨fun _ => ⟨fun _ => this, fun _ e => (by cases e)⟩, fun _ e => (by cases e)⟩, fun _ e => (by cases e)⟩
  · rw [f5]
    refine ⟨fun e => (by cases e), fun a5 e => ?_⟩
    cases e
    have hn := c_knn f8
    have hfm : m.toNatClampNeg = f := by rw [f2, nI_clamp (Nat.lt_trans f1 (by decide))]
    rw [hfm] at hmc h1
    refine ⟨f7, c_holds f7 hn.1 f8.1.1 ⟨fun w => ?_, fun w => ?_⟩⟩
    · cases hh : x_hs A.2.1 s with
      | none => rw [hh] at w; exact absurd rfl w
      | some S =>
        obtain ⟨e1, e2⟩ := x_hsS hh
        obtain ⟨c1, c2⟩ := hmc A S f6 hh
        have hrb := c_rcb (mm a) A.2.1
        rw [← f12] at hrb
        rw [e1]
        refine ⟨c_rc (mm a) A.2.1, c_rs (mm a) A.2.1, by omega, by omega, f7, c_rankOf f7 f8.1 f8.2.1 e2 (Nat.le_refl _) (Nat.le_refl _) (fun M' hQ hR => ?_)⟩
        have hqk := c_Qk f8 hQ
        have := h1 A S (va_up mm a M') f6 hh (c_IVa hIV f1 f4 f3 f7 hqk.1 hqk.2.1 (fun _ => hR) (by rw [c_lvQ f8 hQ, ← f12]) (x_p47 f13))
        exact ⟨fun e => (by cases e), fun _ _ => this⟩
    · have hh : x_hs A.2.1 s = none := by
        cases hh : x_hs A.2.1 s with
        | none => rfl
        | some S => rw [hh] at w; exact absurd (show (1 : Int32) = 0 from w) (by decide)
      have := h0 (fun A' e => by rw [f6] at e; cases e; exact hh)
      exact ⟨fun e => (by cases e), fun _ _ => ⟨fun e => (by cases e), fun _ _ => this⟩⟩
/-- a kind of sets -/
def x_kd (k : Int32) : Option Nat := if k < 0 then none else if k.toNatClampNeg < 4 then some k.toNatClampNeg else none
theorem x_kdS {k : Int32} : (x_kd k = none ∧ (k < 0 ∨ 4 ≤ k)) ∨ ∃ j, j < 4 ∧ k = nI j ∧ x_kd k = some j := by
  unfold x_kd
  by_cases z : k < 0
  · rw [if_pos z]; exact Or.inl ⟨rfl, Or.inl z⟩
  · rw [if_neg z]
    obtain ⟨c, hc, e⟩ := nI_of z
    rw [e, nI_clamp hc]
    by_cases w : c < 4
    · rw [if_pos w]; exact Or.inr ⟨c, w, rfl, rfl⟩
    · rw [if_neg w]; exact Or.inl ⟨rfl, Or.inr ((nI_leI (a := 4) (by decide) hc).2 (by omega))⟩
theorem x_4lt {k : Int32} (h : 4 ≤ k) : ¬ k < 4 := fun w => by
  rw [Int32.lt_iff_toInt_lt] at w
  rw [Int32.le_iff_toInt_le] at h
  omega
/-- count -/
theorem c_qC {s : Int32} (hIV : c_IV G lm d5 cm mm np ns pp ss sa o_r g_o g_t mf mz mh ml gl gm gh vh vg v1 v2 v4 v7 v8 gi) (hmc : ∀ A k, x_lt G.1 m = some A → x_kd s = some k → x_lcc A.2.1 (x_fam (x_bg A.1 A.2.2.2.1) A.2.1 A.2.2.1 k).length k (G.2.1 m.toNatClampNeg) ≤ mc ∧ x_lcs A.2.1 (x_fam (x_bg A.1 A.2.2.2.1) A.2.1 A.2.2.1 k).length k (G.2.1 m.toNatClampNeg) ≤ ms)
    (h0 : (x_lt G.1 m = none ∨ x_kd s = none) → post (-1) d1 d2 d3 d4 d5 q_o G.2.2.2.1 o_r g_o g_t mm)
    (h1 : ∀ A k mm', x_lt G.1 m = some A → x_kd s = some k → c_IV (G.1, va_up G.2.1 m.toNatClampNeg (x_gL A.2.1 (x_fam (x_bg A.1 A.2.2.2.1) A.2.1 A.2.2.1 k).length k (G.2.1 m.toNatClampNeg)), G.2.2) lm d5 cm mm' np ns pp ss sa o_r g_o g_t mf mz mh ml gl gm gh vh vg v1 v2 v4 v7 v8 gi → post (nI (x_fam (x_bg A.1 A.2.2.2.1) A.2.1 A.2.2.1 k).length) d1 d2 d3 d4 d5 q_o G.2.2.2.1 o_r g_o g_t mm') : w342_wp lm cm np ns pa sa pp ss mc ms post m s d1 d2 d3 d4 d5 q_o G.2.2.2.1 o_r g_o g_t mm := by
  refine c_at26 ?_
  rcases c_IVo (x := m) hIV with ⟨z1, z2⟩ | ⟨f, a, A, f1, f2, f3, f4, f5, f6, f7, f8, f9, f10, f11, f12, f13, f14, f15, q, f16, f17⟩
  · rw [z1]
    have := h0 (Or.inl z2)
    exact ⟨fun _ => ⟨fun _ => ⟨fun _ => this, fun _ e => (by cases e)⟩, fun _ e => (by cases e)⟩, fun _ e => (by cases e)⟩
  · rw [f5]
    refine ⟨fun e => (by cases e), fun a5 e => ?_⟩
    cases e
    have hn := c_knn f8
    have hfm : m.toNatClampNeg = f := by rw [f2, nI_clamp (Nat.lt_trans f1 (by decide))]
    rw [hfm] at hmc h1
    have no : x_kd s = none → w342_L19 lm cm np ns pa sa pp ss mc ms post m s (some a) d1 d2 d3 d4 d5 q_o G.2.2.2.1 o_r g_o g_t mm 0 0 := fun hh => by
      have := h0 (Or.inr hh)
      exact ⟨fun e => (by cases e), fun _ _ => ⟨fun e => (by cases e), fun _ _ => this⟩⟩
    rcases x_kdS (k := s) with ⟨k1, k2⟩ | ⟨k, k1, k2, k3⟩
    · refine ⟨fun _ => no k1, fun w => ⟨fun w2 => ?_, fun _ => no k1⟩⟩
      rcases k2 with k2 | k2
      · exact absurd k2 w
      · exact absurd w2 (x_4lt k2)
    · rw [k2] at no ⊢
      refine ⟨fun w => absurd w (nI_pos (by omega)), fun _ => ⟨fun _ => ?_, fun w => absurd (nI_lt k1 (by decide)) w⟩⟩
      obtain ⟨c1, c2⟩ := hmc A k f6 k3
      rw [f12] at c1 c2
      refine ⟨_, _, by rw [Nat.zero_add]; exact c1, by rw [Nat.zero_add]; exact c2, f7, c_aL f7 f8 f17 f16 k1 (by rw [← f12]; exact f13 k k1) (Nat.le_refl _) (Nat.le_refl _) (fun M' m1 m2 m3 m4 m5 m6 m7 m8 m9 => ?_)⟩
      have h16 : ∀ j, j < 4 → 16 ≤ G.2.1 f (20 + j) := fun j hj => by
        rw [f12]
        have := ((c_knv f8).2.2.2.2.2.2.2 j hj).1
        unfold c_lv
        rw [if_pos (by omega)]
        exact this
      have := h1 A k (va_up mm a M') f6 k3 (c_IVa hIV f1 f4 f3 f7 m1 m2 m5 (by rw [m3, ← f12]) (x_p4L (x_faml hn.1) k1 f13 h16))
      exact ⟨fun e => (by cases e), fun _ _ => this⟩
end CAK
