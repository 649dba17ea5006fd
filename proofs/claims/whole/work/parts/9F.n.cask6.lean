/-! PURE, the class: isMinor, contracted, deleted, image -/
section CFD
variable {lm : Nat → Option Nat} {spare : Option Nat} {cm np ns a c : Nat} {mm mm' : Nat → px_MR} {st : Nat} {lt : Nat → Option x_LR} {sk : Nat → Nat → Nat} {sa : Nat → Nat} {pp : Nat → px_PR} {ss : Nat → px_SR} {sp sn sm : Nat → Nat} {sK : Nat → Nat → Nat → Int} {q : Nat} {l_o : Nat} {o_r : Int32} {g_o g_t : Nat → Int32} {l lw lw' : Nat} {mf mz mh : Int32} {ml : Option Nat} {gl gm gh : Nat → Int64} {v1 v2 fd0 co0 de0 fd co' de' : Int32} {gi gi' : Nat → Int32} {f f2 : Nat} {A B : x_LR}
/-- what finds leaves -/
theorem c_fin19 (hP : c_PW cm np ns mm pp ss sa sp sn sm sK l_o o_r g_o g_t q l mf mz mh ml gl gm gh) (hL : c_LT lm spare cm mm st lt sk np ns pp sp sn sm sK q) (hT : c_WT lm mm lt st lw v1 v2 fd0 co0 de0 gi) (hf : f < 26) (hf2 : f2 < 26) (hA : lt f = some A) (hB : lt f2 = some B) (ha : lm f = some a) (c1 : lm f2 = some c) (hans : w_ans (x_bg A.1 A.2.2.2.1) (x_bg B.1 B.2.2.2.1) A.2.1 B.2.1 fd co' de' gi') (hJ : c_JG mm mm' a c A.2.1 B.2.1 (x_bg A.1 A.2.2.2.1) (x_bg B.1 B.2.2.2.1)) (hsl : (w_slow ((mm a).2.1 11) ((mm c).2.1 11) v1 v2 A.2.1 A.2.2.1 B.2.1 B.2.2.1 ∧ lw' = max lw (2 ^ A.2.1) ∧ c_R (mm' a) A.2.1 (x_bg A.1 A.2.2.2.1) ∧ c_R (mm' c) B.2.1 (x_bg B.1 B.2.2.2.1)) ∨ ((¬ w_slow ((mm a).2.1 11) ((mm c).2.1 11) v1 v2 A.2.1 A.2.2.1 B.2.1 B.2.2.1) ∧ lw' = lw ∧ mm' = mm)) :
    c_PW cm np ns mm' pp ss sa sp sn sm sK l_o o_r g_o g_t q l mf mz mh ml gl gm gh ∧ c_LT lm spare cm mm' st lt (x_tkS 19 A B f f2 sk) np ns pp sp sn sm sK q ∧ c_WT lm mm' lt st (x_tkW 19 A B lw) ((mm a).2.1 11) ((mm c).2.1 11) fd co' de' gi' ∧ lw' = x_tkW 19 A B lw := by
  obtain ⟨a', t1, hac, hG, hAq, hsk⟩ := c_LTl hL hf hA
  rw [ha] at t1
  cases t1
  obtain ⟨c', u1, hcc, hG2, hBq, hsk2⟩ := c_LTl hL hf2 hB
  rw [c1] at u1
  cases u1
  have hk : c_kn (mm a) A.2.1 A.2.2.1 (x_bg A.1 A.2.2.2.1) := hG.2.2.2.2.1
  have hk2 : c_kn (mm c) B.2.1 B.2.2.1 (x_bg B.1 B.2.2.2.1) := hG2.2.2.2.2.1
  have hslw : ∀ {s0 s1 : Int32}, w_slow s0 s1 v1 v2 A.2.1 A.2.2.1 B.2.1 B.2.2.1 → x_slw 19 A B = true := fun h => decide_eq_true ⟨rfl, h.2.1, h.2.2⟩
  have sid : va_up sk f (c_lv (mm a)) = sk := by
    funext i
    by_cases w : i = f
    · rw [w, va_up_self, hsk]
    · rw [va_up_ne _ _ w]
  obtain ⟨s1, s1a, s1b, s1c⟩ := (hL.2.2.2.2.1 a hac).2
  obtain ⟨s2', s2a, s2b, s2c⟩ := (hL.2.2.2.2.1 c hcc).2
  have wt : ∀ lw2, (∀ b, (mm' b).2.1 11 = (mm b).2.1 11) → (B.2.2.1 ≤ A.2.2.1 → B.2.1 - B.2.2.1 ≤ A.2.1 - A.2.2.1 → c_R (mm' a) A.2.1 (x_bg A.1 A.2.2.2.1) ∧ c_R (mm' c) B.2.1 (x_bg B.1 B.2.2.2.1) ∧ 2 ^ A.2.1 ≤ lw2) → c_WT lm mm' lt st lw2 ((mm a).2.1 11) ((mm c).2.1 11) fd co' de' gi' := by
    intro lw2 hst hR
    refine ⟨Or.inr ⟨s1, s1b, s1c⟩, Or.inr ⟨s2', s2b, s2c⟩, fun x y b d A' B' hx hy ex ey eA eB e1 e2 => ?_⟩
    obtain ⟨b0, x1, x2, _⟩ := c_LTl hL hx eA
    rw [ex] at x1
    cases x1
    obtain ⟨d0, y1, y2, _⟩ := c_LTl hL hy eB
    rw [ey] at y1
    cases y1
    rw [hst] at e1 e2
    have eb := hL.2.2.2.2.2 b a x2 hac e1
    have ed := hL.2.2.2.2.2 d c y2 hcc e2
    subst eb
    subst ed
    have exf := hL.2.2.1 x f b hx hf ex ha
    have eyf := hL.2.2.1 y f2 d hy hf2 ey c1
    subst exf
    subst eyf
    rw [hA] at eA
    cases eA
    rw [hB] at eB
    cases eB
    exact ⟨hans, hR⟩
  rcases hsl with ⟨hs, elw, hR1, hR2⟩ | ⟨hns, elw, emm⟩
  · have hs' := hslw hs
    have ew : x_tkW 19 A B lw = lw' := by unfold x_tkW; rw [if_pos hs', elw]
    have eS : x_tkS 19 A B f f2 sk = va_up (va_up sk f (x_g7 A.2.1 (sk f))) f2 (x_g7 B.2.1 (va_up sk f (x_g7 A.2.1 (sk f)) f2)) := by
      unfold x_tkS
      rw [if_neg (by decide), if_neg (by decide), if_neg (by decide), if_pos (Or.inr hs')]
    have a71 := c_A7Z hk hJ.2.1 (Or.inl rfl) hR1
    have a72 := c_A7Z hk2 hJ.2.2 (Or.inl rfl) hR2
    obtain ⟨g1, g2', g3⟩ := c_ask2 hP hL hT hf hf2 hA hB ha c1 hac hcc hJ.1 a71 a72
    have hst : ∀ b, (mm' b).2.1 11 = (mm b).2.1 11 := fun b => by
      by_cases w1 : b = a
      · rw [w1]; exact a71.2.1.1 11 (by decide) (by decide)
      · by_cases w2 : b = c
        · rw [w2]; exact a72.2.1.1 11 (by decide) (by decide)
        · rw [hJ.1 b w1 w2]
    rw [ew, eS]
    exact ⟨g1, g2', wt lw' hst (fun _ _ => ⟨hR1, hR2, by rw [elw]; exact Nat.le_max_right _ _⟩), rfl⟩
  · subst emm
    subst elw
    have key : x_slw 19 A B = true → c_R (mm' a) A.2.1 (x_bg A.1 A.2.2.2.1) ∧ c_R (mm' c) B.2.1 (x_bg B.1 B.2.2.2.1) ∧ 2 ^ A.2.1 ≤ lw' := fun hs => by
      have hs := of_decide_eq_true hs
      have hst : (mm' a).2.1 11 = v1 ∧ (mm' c).2.1 11 = v2 := Classical.byContradiction (fun w => hns ⟨w, hs.2.1, hs.2.2⟩)
      exact (hT.2.2 f f2 a c A B hf hf2 ha c1 hA hB hst.1 hst.2).2 hs.2.1 hs.2.2
    have ew : x_tkW 19 A B lw' = lw' := by
      unfold x_tkW
      by_cases w : x_slw 19 A B = true
      · rw [if_pos w]
        have := (key w).2.2
        omega
      · rw [if_neg w]
    have eS : x_tkS 19 A B f f2 sk = sk := by
      unfold x_tkS
      rw [if_neg (by decide), if_neg (by decide), if_neg (by decide)]
      by_cases w : x_slw 19 A B = true
      · rw [if_pos (Or.inr w)]
        obtain ⟨r1, r2, _⟩ := key w
        have e1 : va_up sk f (x_g7 A.2.1 (sk f)) = sk := by
          rw [hsk, c_lvR r1]; exact sid
        rw [e1, hsk2, c_lvR r2]
        funext i
        by_cases w : i = f2
        · rw [w, va_up_self, hsk2]
        · rw [va_up_ne _ _ w]
      · rw [if_neg (fun z => z.elim (fun z => by omega) w), if_neg (by decide)]
    rw [ew, eS]
    exact ⟨hP, hL, wt lw' (fun _ => rfl) (fun q1 q2 => key (decide_eq_true ⟨rfl, q1, q2⟩)), rfl⟩
end CFD
abbrev c_aW := Int32 → Int32 → Int32 → Int32 → Int32 → Option Nat → Nat → Nat → Int32 → (Nat → Int32) → (Nat → Int32) → Nat → Nat → Nat → Nat → Nat → Nat → Option Nat → Option Nat → Int32 → Int32 → Int32 → Int32 → Int32 → Int32 → Int32 → Int32 → Int32 → (Nat → Int32) → (Nat → Int32) → (Nat → Int32) → (Nat → Int32) → (Nat → Int32) → (Nat → Int32) → (Nat → px_MR) → Prop
noncomputable def x_GM (A B : x_LR) (f g : Nat) (G : x_GS) : x_GS := (G.1, x_tkS 19 A B f g G.2.1, G.2.2.1, G.2.2.2.1, G.2.2.2.2.1, x_tkW 19 A B G.2.2.2.2.2.1, G.2.2.2.2.2.2)
section CAQ
variable {mc ms : Nat} {d1 d2 d3 d4 : Int32} {d5 : Option Nat} {lm : Nat → Option Nat} {q_o l_o : Nat} {o_r : Int32} {g_o g_t : Nat → Int32} {mf mz mh : Int32} {ml : Option Nat} {gl gm gh : Nat → Int64} {qk qr qg : Nat} {vh vg : Option Nat} {v1 v2 v3 v4 v5 v6 v7 v8 v9 : Int32} {gi gp gq gk gr gg : Nat → Int32} {mm : Nat → px_MR} {cm np ns : Nat} {hm pa sa : Nat → Nat} {pp : Nat → px_PR} {ss : Nat → px_SR} {G : x_GS} {post : c_aW} {m m2 : Int32}
theorem c_qMi (hIV : c_IV G lm d5 cm mm np ns pp ss sa o_r g_o g_t mf mz mh ml gl gm gh vh vg v1 v2 v4 v7 v8 gi) (hmc : ∀ A B, x_lt G.1 m = some A → x_lt G.1 m2 = some B → x_tkC 19 A B m.toNatClampNeg m2.toNatClampNeg G.2.1 G.2.2.2.2.2.1 ≤ mc ∧ x_tkE 19 A B m.toNatClampNeg m2.toNatClampNeg G.2.1 G.2.2.2.2.2.1 ≤ ms)
    (h0 : (x_lt G.1 m = none ∨ x_lt G.1 m2 = none) → post 0 d1 d2 d3 d4 d5 q_o G.2.2.2.1 o_r g_o g_t qk qr qg G.2.2.2.2.2.1 G.2.2.2.2.2.1 G.2.2.2.2.2.1 vh vg v1 v2 v3 v4 v5 v6 v7 v8 v9 gi gp gq gk gr gg mm)
    (h1 : ∀ A B fd qk' qr' qg' vh' vg' v1' v2' v3' v5' v6' v7' v8' v9' gi' gp' gq' gk' gr' gg' mm', x_lt G.1 m = some A → x_lt G.1 m2 = some B → w_ans (x_bg A.1 A.2.2.2.1) (x_bg B.1 B.2.2.2.1) A.2.1 B.2.1 fd v7' v8' gi' → c_IV (x_GM A B m.toNatClampNeg m2.toNatClampNeg G) lm d5 cm mm' np ns pp ss sa o_r g_o g_t mf mz mh ml gl gm gh vh' vg' v1' v2' fd v7' v8' gi' → post fd d1 d2 d3 d4 d5 q_o G.2.2.2.1 o_r g_o g_t qk' qr' qg' (x_tkW 19 A B G.2.2.2.2.2.1) (x_tkW 19 A B G.2.2.2.2.2.1) (x_tkW 19 A B G.2.2.2.2.2.1) vh' vg' v1' v2' v3' fd v5' v6' v7' v8' v9' gi' gp' gq' gk' gr' gg' mm') :
    w352_wp lm cm np ns pa sa pp ss mc ms post m m2 d1 d2 d3 d4 d5 q_o G.2.2.2.1 o_r g_o g_t qk qr qg G.2.2.2.2.2.1 G.2.2.2.2.2.1 G.2.2.2.2.2.1 vh vg v1 v2 v3 v4 v5 v6 v7 v8 v9 gi gp gq gk gr gg mm := by
  have no : ∀ (x y : Option Nat), (x_lt G.1 m = none ∨ x_lt G.1 m2 = none) → w352_L39 lm cm np ns pa sa pp ss mc ms post m m2 x y d1 d2 d3 d4 d5 q_o G.2.2.2.1 o_r g_o g_t qk qr qg G.2.2.2.2.2.1 G.2.2.2.2.2.1 G.2.2.2.2.2.1 vh vg v1 v2 v3 v4 v5 v6 v7 v8 v9 gi gp gq gk gr gg mm 0 0 := by
    intro x y h
    have h := h0 h
    have l40 : ∀ x y, w352_L40 lm cm np ns pa sa pp ss mc ms post m m2 x y 0 d1 d2 d3 d4 d5 q_o G.2.2.2.1 o_r g_o g_t qk qr qg G.2.2.2.2.2.1 G.2.2.2.2.2.1 G.2.2.2.2.2.1 vh vg v1 v2 v3 v4 v5 v6 v7 v8 v9 gi gp gq gk gr gg mm 0 0 := fun x y => ⟨fun _ => ⟨fun _ => ⟨rfl, h⟩, fun _ _ => ⟨rfl, h⟩⟩, fun _ _ => ⟨fun _ => ⟨rfl, h⟩, fun _ _ => ⟨rfl, h⟩⟩⟩
    exact ⟨fun _ => ⟨fun _ => l40 _ _, fun _ _ => l40 _ _⟩, fun _ _ => ⟨fun _ => l40 _ _, fun _ _ => l40 _ _⟩⟩
  refine c_at26 ?_
  rcases c_IVo (x := m) hIV with ⟨z1, z2⟩ | ⟨f, a, A, f1, f2, f3, f4, f5, f6, f7, f8, f9, f10, f11, f12, f13, f14, f15, q, f16, f17⟩
  · rw [z1]
    refine ⟨fun _ => c_at26 ⟨fun _ => no _ _ (Or.inl z2), fun _ _ => no _ _ (Or.inl z2)⟩, fun _ e => (by cases e)⟩
  · rw [f5]
    refine ⟨fun e => (by cases e), fun a5 e => ?_⟩
    cases e
    refine c_at26 ?_
    rcases c_IVo (x := m2) hIV with ⟨z1, z2⟩ | ⟨g, c, B, g1, g2, g3, g4, g5, g6, g7, g8, g9, g10, g11, g12, g13, g14, g15, q', g16, g17⟩
    · rw [z1]
      exact ⟨fun _ => no _ _ (Or.inr z2), fun _ e => (by cases e)⟩
    · rw [g5]
      refine ⟨fun e => (by cases e), fun a11 e => ?_⟩
      cases e
      obtain ⟨q0, sp, sn, sm, sK, hP, hL, hT, hvh, hvg, hs4, hw1, hw2, hw3⟩ := id hIV
      have hn := c_knn f8
      have hfm : m.toNatClampNeg = f := by rw [f2, nI_clamp (Nat.lt_trans f1 (by decide))]
      have hgm : m2.toNatClampNeg = g := by rw [g2, nI_clamp (Nat.lt_trans g1 (by decide))]
      rw [hfm, hgm] at hmc h1
      have hcf : c = a ↔ g = f := ⟨fun w => hL.2.2.1 g f a g1 f1 (by rw [g3, w]) f3, fun w => by rw [w, f3] at g3; cases g3; rfl⟩
      have hsame : c = a → B.2.1 = A.2.1 ∧ B.2.2.1 = A.2.2.1 ∧ x_bg B.1 B.2.2.2.1 = x_bg A.1 A.2.2.2.1 := fun w => by
        rw [hcf.1 w, f4] at g4; cases g4; exact ⟨rfl, rfl, rfl⟩
      obtain ⟨c1, c2⟩ := hmc A B f6 g6
      have hrb := c_rcb (mm a) A.2.1
      have hrb2 := c_rcb (mm c) B.2.1
      rw [← f12] at hrb
      rw [← g12] at hrb2
      have hC : ∀ {s0 s1 : Int32}, w_slow s0 s1 v1 v2 A.2.1 A.2.2.1 B.2.1 B.2.2.1 → c_mrc mm a c A.2.1 B.2.1 G.2.2.2.2.2.1 ≤ mc ∧ c_mrs mm a c A.2.1 B.2.1 G.2.2.2.2.2.1 ≤ ms := fun hs => by
        have hs' : x_slw 19 A B = true := decide_eq_true ⟨rfl, hs.2.1, hs.2.2⟩
        unfold x_tkC at c1
        unfold x_tkE at c2
        rw [if_neg (by decide), if_neg (by decide), if_neg (by decide), if_pos (Or.inr hs')] at c1 c2
        clear hs4 hw3
        unfold c_mrc c_mrs
        have e3 : (19 = 16 ∨ 2 ^ A.2.1 ≤ G.2.2.2.2.2.1) ↔ 2 ^ A.2.1 ≤ G.2.2.2.2.2.1 := ⟨fun z => z.elim (fun z => absurd z (by decide)) id, Or.inr⟩
        simp only [e3] at c1 c2
        by_cases w : c = a
        · rw [if_pos w, if_pos w]
          rw [if_pos (hcf.1 w)] at c1 c2
          omega
        · rw [if_neg w, if_neg w]
          rw [if_neg (fun w2 => w (hcf.2 w2))] at c1 c2
          omega
      refine ⟨mc, ms, by omega, by omega, c_finds (q := q) f7 g7 f8.1 g8.1 f8.2.1 g8.2.1 hsame hw1 f17 f16 (fun hs => (hC hs).1) (fun hs => (hC hs).2) (fun e1 e2 => (hT.2.2 f g a c A B f1 g1 f3 g3 f4 g4 e1 e2).1) (fun fd qk' qr' qg' lw' vh' vg' gb' kp' lo' co' de' ta' gi' gp' gq' gk' gr' gg' mm' hans hJ hsl hvh' hvg' => ?_)⟩
      obtain ⟨r1, r2, r3, r4⟩ := c_fin19 hP hL hT f1 g1 f4 g4 f3 g3 hans hJ hsl
      subst r4
      have bvh : ∀ y, vh' = some y → y < cm := fun y e => by
        rcases hvh' with w | w
        · exact hvh y (by rw [← w]; exact e)
        · rw [w] at e; cases e; exact f7
      have bvg : ∀ y, vg' = some y → y < cm := fun y e => by
        rcases hvg' with w | w
        · exact hvg y (by rw [← w]; exact e)
        · rw [w] at e; cases e; exact g7
      have hs4' : x_s4 (x_tkS 19 A B f g G.2.1) := by
        unfold x_tkS
        rw [if_neg (by decide), if_neg (by decide), if_neg (by decide)]
        by_cases w16 : 19 = 16 ∨ x_slw 19 A B = true
        · rw [if_pos w16]
          refine x_s4u (x_s4u hs4 (x_p47 f13)) (x_p47 ?_)
          by_cases w : g = f
          · rw [w, va_up_self]; exact x_p47 f13
          · rw [va_up_ne _ _ w]; exact g13
        · rw [if_neg w16, if_neg (by decide)]; exact hs4
      have hwl : x_tkW 19 A B G.2.2.2.2.2.1 ≤ 4096 ∧ 16 ≤ x_tkW 19 A B G.2.2.2.2.2.1 ∧ c_p2 (x_tkW 19 A B G.2.2.2.2.2.1) := by
        unfold x_tkW
        split
        · exact ⟨Nat.max_le.2 ⟨hw1, hn.2⟩, Nat.le_trans hw2 (Nat.le_max_left _ _), c_p2m hw3⟩
        · exact ⟨hw1, hw2, hw3⟩
      have fin := h1 A B fd qk' qr' qg' vh' vg' ((mm a).2.1 11) ((mm c).2.1 11) gb' kp' lo' co' de' ta' gi' gp' gq' gk' gr' gg' mm' f6 g6 hans ⟨q0, sp, sn, sm, sK, r1, r2, r3, bvh, bvg, hs4', hwl.1, hwl.2.1, hwl.2.2⟩
      have hfd : fd = 0 ∨ fd = 1 := hans.elim (fun z => Or.inl z.1) (fun z => Or.inr z.1)
      refine ⟨fun z => ?_, fun z => ?_⟩
      · subst z
        exact ⟨fun e => (by cases e), fun _ _ => ⟨fun e => (by cases e), fun _ _ => ⟨fun e => (by cases e), fun _ _ => ⟨fun e => (by cases e), fun _ _ => ⟨rfl, fin⟩⟩⟩⟩⟩
      · have hfd1 : fd = 1 := hfd.resolve_left z
        subst hfd1
        exact ⟨fun e => (by cases e), fun _ _ => ⟨fun e => (by cases e), fun _ _ => ⟨rfl, fin⟩⟩⟩
end CAQ
