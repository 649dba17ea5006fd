/-! PURE, the class: common, cover, isMinor -/
section CAP
variable {mc ms : Nat} {d1 d2 d3 d4 : Int32} {d5 : Option Nat} {lm : Nat → Option Nat} {q_o l_o : Nat} {o_r : Int32} {g_o g_t : Nat → Int32} {mf mz mh : Int32} {ml : Option Nat} {gl gm gh : Nat → Int64} {qk qr qg : Nat} {vh vg : Option Nat} {v1 v2 v3 v4 v5 v6 v7 v8 v9 : Int32} {gi gp gq gk gr gg : Nat → Int32} {mm : Nat → px_MR} {cm np ns : Nat} {hm pa sa : Nat → Nat} {pp : Nat → px_PR} {ss : Nat → px_SR} {G : x_GS} {post : c_aT} {m m2 : Int32}
theorem c_qCo (hIV : c_IV G lm d5 cm mm np ns pp ss sa o_r g_o g_t mf mz mh ml gl gm gh vh vg v1 v2 v4 v7 v8 gi) (hmc : ∀ A B, x_lt G.1 m = some A → x_lt G.1 m2 = some B → A.2.1 = B.2.1 → 0 < min A.2.2.1 B.2.2.1 → x_2c A B m.toNatClampNeg m2.toNatClampNeg G.2.1 ≤ mc ∧ x_2s A B m.toNatClampNeg m2.toNatClampNeg G.2.1 ≤ ms)
    (h0 : (∀ A B, x_lt G.1 m = some A → x_lt G.1 m2 = some B → ¬ A.2.1 = B.2.1) → post (-1) d1 d2 d3 d4 d5 q_o G.2.2.2.1 o_r g_o g_t mm)
    (h1 : ∀ A B T mm', x_lt G.1 m = some A → x_lt G.1 m2 = some B → A.2.1 = B.2.1 → x_top A.2.1 (x_cp (x_bg A.1 A.2.2.2.1) (x_bg B.1 B.2.2.2.1)) T → c_IV (G.1, (if 0 < min A.2.2.1 B.2.2.1 then x_sk2 A B m.toNatClampNeg m2.toNatClampNeg G.2.1 else G.2.1), G.2.2) lm d5 cm mm' np ns pp ss sa o_r g_o g_t mf mz mh ml gl gm gh vh vg v1 v2 v4 v7 v8 gi → post (nI T) d1 d2 d3 d4 d5 q_o G.2.2.2.1 o_r g_o g_t mm') : w347_wp lm cm np ns pa sa pp ss mc ms post m m2 d1 d2 d3 d4 d5 q_o G.2.2.2.1 o_r g_o g_t mm := by
  have no : ∀ (x y : Option Nat), post (-1) d1 d2 d3 d4 d5 q_o G.2.2.2.1 o_r g_o g_t mm → w347_L38 lm cm np ns pa sa pp ss mc ms post m m2 x y d1 d2 d3 d4 d5 q_o G.2.2.2.1 o_r g_o g_t mm 0 0 := by
    intro x y h
    have l56 : ∀ x y, w347_L56 lm cm np ns pa sa pp ss mc ms post m m2 x y 0 (-1) d1 d2 d3 d4 d5 q_o G.2.2.2.1 o_r g_o g_t mm 0 0 := fun x y => ⟨fun _ => ⟨fun _ => h, fun _ _ => h⟩, fun _ _ => ⟨fun _ => h, fun _ _ => h⟩⟩
    have l39 : ∀ x y, w347_L39 lm cm np ns pa sa pp ss mc ms post m m2 x y 0 d1 d2 d3 d4 d5 q_o G.2.2.2.1 o_r g_o g_t mm 0 0 := fun x y => ⟨fun _ => ⟨fun _ => ⟨fun _ => l56 _ _, fun z => absurd rfl z⟩, fun _ _ => ⟨fun _ => l56 _ _, fun z => absurd rfl z⟩⟩, fun _ _ => ⟨fun _ => ⟨fun _ => l56 _ _, fun z => absurd rfl z⟩, fun _ _ => ⟨fun _ => l56 _ _, fun z => absurd rfl z⟩⟩⟩
    exact ⟨fun _ => ⟨fun _ => l39 _ _, fun _ _ => l39 _ _⟩, fun _ _ => ⟨fun _ => l39 _ _, fun _ _ => l39 _ _⟩⟩
  refine c_at26 ?_
  rcases c_IVo (x := m) hIV with ⟨z1, z2⟩ | ⟨f, a, A, f1, f2, f3, f4, f5, f6, f7, f8, f9, f10, f11, f12, f13, f14, f15, q, f16, f17⟩
  · rw [z1]
    have hf := h0 (fun A B e => by rw [z2] at e; cases e)
    refine ⟨fun _ => c_at26 ⟨fun _ => no _ _ hf, fun _ _ => no _ _ hf⟩, fun _ e => (by cases e)⟩
  · rw [f5]
    refine ⟨fun e => (by cases e), fun a5 e => ?_⟩
    cases e
    refine c_at26 ?_
    rcases c_IVo (x := m2) hIV with ⟨z1, z2⟩ | ⟨g, c, B, g1, g2, g3, g4, g5, g6, g7, g8, g9, g10, g11, g12, g13, g14, g15, q', g16, g17⟩
    · rw [z1]
      have hf := h0 (fun A B _ e => by rw [z2] at e; cases e)
      exact ⟨fun _ => no _ _ hf, fun _ e => (by cases e)⟩
    · rw [g5]
      refine ⟨fun e => (by cases e), fun a11 e => ?_⟩
      cases e
      have hn := c_knn f8
      have hn2 := c_knn g8
      refine ⟨f7, g7, ?_⟩
      rw [f8.1.1, g8.1.1]
      refine ⟨fun w => no _ _ (h0 (fun A' B' e1 e2 e3 => ?_)), fun w => ?_⟩
      · rw [f6] at e1; cases e1
        rw [g6] at e2; cases e2
        exact w (by rw [e3])
      · have hAB : A.2.1 = B.2.1 := (nI_eq (by omega) (by omega)).1 w
        have hfm : m.toNatClampNeg = f := by rw [f2, nI_clamp (Nat.lt_trans f1 (by decide))]
        have hgm : m2.toNatClampNeg = g := by rw [g2, nI_clamp (Nat.lt_trans g1 (by decide))]
        rw [hfm, hgm] at hmc h1
        have hcf : c = a ↔ g = f := by
          obtain ⟨_, _, _, _, _, _, hL, _⟩ := id hIV
          exact ⟨fun w => hL.2.2.1 g f a g1 f1 (by rw [g3, w]) f3, fun w => by rw [w, f3] at g3; cases g3; rfl⟩
        have hcd : c = a → x_bg B.1 B.2.2.2.1 = x_bg A.1 A.2.2.2.1 := fun w => by
          rw [hcf.1 w, f4] at g4; cases g4; rfl
        have hrm := c_rem2 (mm := mm) (n := A.2.1) (A := A) (B := B) f12 g12 hcf rfl hAB.symm
        have hg8 : c_kn (mm c) A.2.1 B.2.2.1 (x_bg B.1 B.2.2.2.1) := by rw [hAB]; exact g8
        have cost : 0 < min A.2.2.1 B.2.2.1 → c_remc mm a c A.2.1 ≤ mc ∧ c_rems mm a c A.2.1 ≤ ms := fun w => by
          have := hmc A B f6 g6 hAB w
          omega
        have call : w288_wp a cm np ns pa sa pp ss c mc ms (fun r49 v13 v14 v15 v16 v17 v18 => w347_L56 lm cm np ns pa sa pp ss mc ms post m m2 (some a) (some c) 1 r49 d1 d2 d3 d4 d5 v13 v14 v15 v16 v17 v18 (0 + mc) (0 + ms)) q_o G.2.2.2.1 o_r g_o g_t mm := by
          refine c_common f7 g7 f8.1 hg8.1 f8.2.1 hg8.2.1 hcd f17 f16 (fun w => (cost w).1) (fun w => (cost w).2) (fun mm' T hJ hT => ?_)
          have fin : post (nI T) d1 d2 d3 d4 d5 q_o G.2.2.2.1 o_r g_o g_t mm' := by
            refine h1 A B T mm' f6 g6 hAB hT ?_
            rcases hJ.2 with ⟨w, r1, r2⟩ | ⟨w, e⟩
            · rw [if_pos w]
              exact c_IVb hIV f1 g1 f4 g4 f3 g3 f7 g7 f13 g13 hJ.1.1 (c_A7Z f8 hJ.1.2.1 (Or.inl rfl) r1) (by rw [← hAB]; exact c_A7Z hg8 hJ.1.2.2 (Or.inl rfl) r2)
            · rw [if_neg (by omega), e]
              exact hIV
          exact ⟨fun e => (by cases e), fun _ _ => ⟨fun e => (by cases e), fun _ _ => fin⟩⟩
        refine ⟨fun e => (by cases e), fun a39 e39 => ⟨fun e => (by cases e), fun a6 e6 => ⟨fun z => absurd z (by decide), fun _ => ?_⟩⟩⟩
        cases e39
        cases e6
        exact ⟨mc, ms, by omega, by omega, f7, call⟩
theorem c_qCv (hIV : c_IV G lm d5 cm mm np ns pp ss sa o_r g_o g_t mf mz mh ml gl gm gh vh vg v1 v2 v4 v7 v8 gi) (hmc : ∀ A B, x_lt G.1 m = some A → x_lt G.1 m2 = some B → A.2.1 = B.2.1 → x_2c A B m.toNatClampNeg m2.toNatClampNeg G.2.1 ≤ mc ∧ x_2s A B m.toNatClampNeg m2.toNatClampNeg G.2.1 ≤ ms)
    (h0 : (∀ A B, x_lt G.1 m = some A → x_lt G.1 m2 = some B → ¬ A.2.1 = B.2.1) → post (-1) d1 d2 d3 d4 d5 q_o G.2.2.2.1 o_r g_o g_t mm)
    (h1 : ∀ A B T mm', x_lt G.1 m = some A → x_lt G.1 m2 = some B → A.2.1 = B.2.1 → x_top A.2.1 (x_cp (x_bg A.1 A.2.2.2.1) (x_bg B.1 B.2.2.2.1)) T → c_IV (G.1, x_sk2 A B m.toNatClampNeg m2.toNatClampNeg G.2.1, G.2.2) lm d5 cm mm' np ns pp ss sa o_r g_o g_t mf mz mh ml gl gm gh vh vg v1 v2 v4 v7 v8 gi → post (nI (x_cv (x_bg A.1 A.2.2.2.1) (x_bg B.1 B.2.2.2.1) A.2.1 (x_n T) (2 ^ A.2.1))) d1 d2 d3 d4 d5 q_o G.2.2.2.1 o_r g_o g_t mm') : w348_wp lm cm np ns pa sa pp ss mc ms post m m2 d1 d2 d3 d4 d5 q_o G.2.2.2.1 o_r g_o g_t mm := by
  have no : ∀ (x y : Option Nat), post (-1) d1 d2 d3 d4 d5 q_o G.2.2.2.1 o_r g_o g_t mm → w348_L38 lm cm np ns pa sa pp ss mc ms post m m2 x y d1 d2 d3 d4 d5 q_o G.2.2.2.1 o_r g_o g_t mm 0 0 := by
    intro x y h
    have l56 : ∀ x y, w348_L56 lm cm np ns pa sa pp ss mc ms post m m2 x y 0 (-1) d1 d2 d3 d4 d5 q_o G.2.2.2.1 o_r g_o g_t mm 0 0 := fun x y => ⟨fun _ => ⟨fun _ => h, fun _ _ => h⟩, fun _ _ => ⟨fun _ => h, fun _ _ => h⟩⟩
    have l39 : ∀ x y, w348_L39 lm cm np ns pa sa pp ss mc ms post m m2 x y 0 d1 d2 d3 d4 d5 q_o G.2.2.2.1 o_r g_o g_t mm 0 0 := fun x y => ⟨fun _ => ⟨fun _ => ⟨fun _ => l56 _ _, fun z => absurd rfl z⟩, fun _ _ => ⟨fun _ => l56 _ _, fun z => absurd rfl z⟩⟩, fun _ _ => ⟨fun _ => ⟨fun _ => l56 _ _, fun z => absurd rfl z⟩, fun _ _ => ⟨fun _ => l56 _ _, fun z => absurd rfl z⟩⟩⟩
    exact ⟨fun _ => ⟨fun _ => l39 _ _, fun _ _ => l39 _ _⟩, fun _ _ => ⟨fun _ => l39 _ _, fun _ _ => l39 _ _⟩⟩
  refine c_at26 ?_
  rcases c_IVo (x := m) hIV with ⟨z1, z2⟩ | ⟨f, a, A, f1, f2, f3, f4, f5, f6, f7, f8, f9, f10, f11, f12, f13, f14, f15, q, f16, f17⟩
  · rw [z1]
    have hf := h0 (fun A B e => by rw [z2] at e; cases e)
    refine ⟨fun _ => c_at26 ⟨fun _ => no _ _ hf, fun _ _ => no _ _ hf⟩, fun _ e => (by cases e)⟩
  · rw [f5]
    refine ⟨fun e => (by cases e), fun a5 e => ?_⟩
    cases e
    refine c_at26 ?_
    rcases c_IVo (x := m2) hIV with ⟨z1, z2⟩ | ⟨g, c, B, g1, g2, g3, g4, g5, g6, g7, g8, g9, g10, g11, g12, g13, g14, g15, q', g16, g17⟩
    · rw [z1]
      have hf := h0 (fun A B _ e => by rw [z2] at e; cases e)
      exact ⟨fun _ => no _ _ hf, fun _ e => (by cases e)⟩
    · rw [g5]
      refine ⟨fun e => (by cases e), fun a11 e => ?_⟩
      cases e
      have hn := c_knn f8
      have hn2 := c_knn g8
      refine ⟨f7, g7, ?_⟩
      rw [f8.1.1, g8.1.1]
      refine ⟨fun w => no _ _ (h0 (fun A' B' e1 e2 e3 => ?_)), fun w => ?_⟩
      · rw [f6] at e1; cases e1
        rw [g6] at e2; cases e2
        exact w (by rw [e3])
      · have hAB : A.2.1 = B.2.1 := (nI_eq (by omega) (by omega)).1 w
        have hfm : m.toNatClampNeg = f := by rw [f2, nI_clamp (Nat.lt_trans f1 (by decide))]
        have hgm : m2.toNatClampNeg = g := by rw [g2, nI_clamp (Nat.lt_trans g1 (by decide))]
        rw [hfm, hgm] at hmc h1
        have hcf : c = a ↔ g = f := by
          obtain ⟨_, _, _, _, _, _, hL, _⟩ := id hIV
          exact ⟨fun w => hL.2.2.1 g f a g1 f1 (by rw [g3, w]) f3, fun w => by rw [w, f3] at g3; cases g3; rfl⟩
        have hcd : c = a → x_bg B.1 B.2.2.2.1 = x_bg A.1 A.2.2.2.1 := fun w => by
          rw [hcf.1 w, f4] at g4; cases g4; rfl
        have hrm := c_rem2 (mm := mm) (n := A.2.1) (A := A) (B := B) f12 g12 hcf rfl hAB.symm
        have hg8 : c_kn (mm c) A.2.1 B.2.2.1 (x_bg B.1 B.2.2.2.1) := by rw [hAB]; exact g8
        have cost := hmc A B f6 g6 hAB
        have call : w289_wp a cm np ns pa sa pp ss c mc ms (fun r49 v13 v14 v15 v16 v17 v18 => w348_L56 lm cm np ns pa sa pp ss mc ms post m m2 (some a) (some c) 1 r49 d1 d2 d3 d4 d5 v13 v14 v15 v16 v17 v18 (0 + mc) (0 + ms)) q_o G.2.2.2.1 o_r g_o g_t mm := by
          refine c_cover f7 g7 f8.1 hg8.1 f8.2.1 hg8.2.1 hcd f17 f16 (by omega) (by omega) (fun mm' T hJ r1 r2 hT => ?_)
          have fin := h1 A B T mm' f6 g6 hAB hT (c_IVb hIV f1 g1 f4 g4 f3 g3 f7 g7 f13 g13 hJ.1 (c_A7Z f8 hJ.2.1 (Or.inl rfl) r1) (by rw [← hAB]; exact c_A7Z hg8 hJ.2.2 (Or.inl rfl) r2))
          exact ⟨fun e => (by cases e), fun _ _ => ⟨fun e => (by cases e), fun _ _ => fin⟩⟩
        refine ⟨fun e => (by cases e), fun a39 e39 => ⟨fun e => (by cases e), fun a6 e6 => ⟨fun z => absurd z (by decide), fun _ => ?_⟩⟩⟩
        cases e39
        cases e6
        exact ⟨mc, ms, by omega, by omega, f7, call⟩
end CAP
