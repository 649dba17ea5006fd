/-! PURE, the class: asking one matroid: member, tutte, weight, best, sign, below -/
section CAM
variable {mc ms : Nat} {d1 d2 d3 d4 : Int32} {d5 : Option Nat} {lm : Nat → Option Nat} {q_o l_o : Nat} {o_r : Int32} {g_o g_t : Nat → Int32} {mf mz mh : Int32} {ml : Option Nat} {gl gm gh : Nat → Int64} {vh vg : Option Nat} {v1 v2 v3 v4 v5 v6 v7 v8 v9 : Int32} {gi gp gq gk gr gg : Nat → Int32} {mm : Nat → px_MR} {cm np ns : Nat} {hm pa sa : Nat → Nat} {pp : Nat → px_PR} {ss : Nat → px_SR} {G : x_GS} {post : c_aT} {m : Int32}
theorem c_16f {M : px_MR} {n r : Nat} {b : Nat → Bool} (h : c_kn M n r b) : ∀ j, j < 4 → 16 ≤ c_lv M (20 + j) := fun j hj => by
  have := ((c_knv h).2.2.2.2.2.2.2 j hj).1
  unfold c_lv
  rw [if_pos (by omega)]
  exact this
/-- the i-th of a list -/
def x_ix (l : List Nat) (i : Int32) : Option Nat := if i < 0 then none else l[i.toNatClampNeg]?
/-- member -/
theorem c_qM {s i : Int32} (hIV : c_IV G lm d5 cm mm np ns pp ss sa o_r g_o g_t mf mz mh ml gl gm gh vh vg v1 v2 v4 v7 v8 gi) (hmc : ∀ A k, x_lt G.1 m = some A → x_kd s = some k → ¬ i < 0 → x_lcc A.2.1 (x_fam (x_bg A.1 A.2.2.2.1) A.2.1 A.2.2.1 k).length k (G.2.1 m.toNatClampNeg) ≤ mc ∧ x_lcs A.2.1 (x_fam (x_bg A.1 A.2.2.2.1) A.2.1 A.2.2.1 k).length k (G.2.1 m.toNatClampNeg) ≤ ms)
    (h0 : (x_lt G.1 m = none ∨ x_kd s = none ∨ i < 0) → post (-1) d1 d2 d3 d4 d5 q_o G.2.2.2.1 o_r g_o g_t mm)
    (h1 : ∀ A k mm', x_lt G.1 m = some A → x_kd s = some k → ¬ i < 0 → c_IV (G.1, va_up G.2.1 m.toNatClampNeg (x_gL A.2.1 (x_fam (x_bg A.1 A.2.2.2.1) A.2.1 A.2.2.1 k).length k (G.2.1 m.toNatClampNeg)), G.2.2) lm d5 cm mm' np ns pp ss sa o_r g_o g_t mf mz mh ml gl gm gh vh vg v1 v2 v4 v7 v8 gi → post (match x_ix (x_fam (x_bg A.1 A.2.2.2.1) A.2.1 A.2.2.1 k) i with | none => -1 | some S => nI S) d1 d2 d3 d4 d5 q_o G.2.2.2.1 o_r g_o g_t mm') : w343_wp lm cm np ns pa sa pp ss mc ms post m s i d1 d2 d3 d4 d5 q_o G.2.2.2.1 o_r g_o g_t mm := by
  refine c_at26 ?_
  rcases c_IVo (x := m) hIV with ⟨z1, z2⟩ | ⟨f, a, A, f1, f2, f3, f4, f5, f6, f7, f8, f9, f10, f11, f12, f13, f14, f15, q, f16, f17⟩
  · rw [z1]
    have := h0 (Or.inl z2)
    exact ⟨fun _ => ⟨fun _ => this, fun _ e => (by cases e)⟩, fun _ e => (by cases e)⟩
  · rw [f5]
    refine ⟨fun e => (by cases e), fun a5 e => ?_⟩
    cases e
    have hn := c_knn f8
    have hfm : m.toNatClampNeg = f := by rw [f2, nI_clamp (Nat.lt_trans f1 (by decide))]
    rw [hfm] at hmc h1
    have no : (x_kd s = none ∨ i < 0) → w343_L35 lm cm np ns pa sa pp ss mc ms post m s i (some a) d1 d2 d3 d4 d5 q_o G.2.2.2.1 o_r g_o g_t mm 0 0 := fun hh => ⟨fun e => (by cases e), fun _ _ => h0 (Or.inr hh)⟩
    rcases x_kdS (k := s) with ⟨k1, k2⟩ | ⟨k, k1, k2, k3⟩
    · refine ⟨fun _ => no (Or.inl k1), fun w => ⟨fun _ => no (Or.inl k1), fun w2 => ?_⟩⟩
      rcases k2 with k2 | k2
      · exact absurd k2 w
      · exact absurd k2 w2
    · subst k2
      refine ⟨fun w => absurd w (nI_pos (by omega)), fun _ => ⟨fun w => absurd w (nI_ge k1 (by decide)), fun _ => ⟨fun w => no (Or.inr w), fun hi => ?_⟩⟩⟩
      obtain ⟨c1, c2⟩ := hmc A k f6 k3 hi
      rw [f12] at c1 c2
      refine ⟨_, _, by rw [Nat.zero_add]; exact c1, by rw [Nat.zero_add]; exact c2, f7, c_aL f7 f8 f17 f16 k1 (by rw [← f12]; exact f13 k k1) (Nat.le_refl _) (Nat.le_refl _) (fun M' m1 m2 m3 m4 m5 m6 m7 m8 m9 => ?_)⟩
      have h16 : ∀ j, j < 4 → 16 ≤ G.2.1 f (20 + j) := by rw [f12]; exact c_16f f8
      have hfin := h1 A k (va_up mm a M') f6 k3 hi (c_IVa hIV f1 f4 f3 f7 m1 m2 m5 (by rw [m3, ← f12]) (x_p4L (x_faml hn.1) k1 f13 h16))
      have hfl := x_faml (b := x_bg A.1 A.2.2.2.1) (r := A.2.2.1) (kind := k) hn.1
      obtain ⟨I, hI, eI⟩ := nI_of hi
      unfold x_ix at hfin
      rw [if_neg hi] at hfin
      rw [eI] at hfin ⊢
      rw [nI_clamp hI] at hfin
      refine ⟨fun w => ⟨f7, f7, b_in k1 (by omega), f7, ?_⟩, fun w => ⟨fun e => (by cases e), fun _ _ => ?_⟩⟩
      · have hlt : I < (x_fam (x_bg A.1 A.2.2.2.1) A.2.1 A.2.2.1 k).length := (nI_ltI hI (by omega)).1 w
        rw [va_up_self, nI_clamp (show k < 2 ^ 31 by omega), nI_clamp hI]
        have e : (x_fam (x_bg A.1 A.2.2.2.1) A.2.1 A.2.2.1 k)[I]? = some ((x_fam (x_bg A.1 A.2.2.2.1) A.2.1 A.2.2.1 k).getD I 0) := by
          rw [List.getD_eq_getElem?_getD, List.getElem?_eq_getElem hlt]; rfl
        refine ⟨b_in (by omega) hI, k1, ?_⟩
        rw [m9 I _ e]
        rw [e] at hfin
        exact hfin
      · have hge : (x_fam (x_bg A.1 A.2.2.2.1) A.2.1 A.2.2.1 k).length ≤ I := Classical.byContradiction (fun w2 => w ((nI_ltI hI (by omega)).2 (by omega)))
        rw [List.getElem?_eq_none hge] at hfin
        exact hfin
/-- weight -/
theorem c_qW {s : Int32} (hIV : c_IV G lm d5 cm mm np ns pp ss sa o_r g_o g_t mf mz mh ml gl gm gh vh vg v1 v2 v4 v7 v8 gi) (h : post (match x_lt G.1 m with | none => 0 | some A => if s < 0 then 0 else if s.toNatClampNeg < A.2.1 then A.2.2.2.2 s.toNatClampNeg else 0) d1 d2 d3 d4 d5 q_o l_o o_r g_o g_t mm) : w345_wp lm cm np ns pa sa pp ss post m s d1 d2 d3 d4 d5 q_o l_o o_r g_o g_t mm := by
  refine c_at26 ?_
  rcases c_IVo (x := m) hIV with ⟨z1, z2⟩ | ⟨f, a, A, f1, f2, f3, f4, f5, f6, f7, f8, f9, f10, _⟩
  · rw [z1]; rw [z2] at h
    exact ⟨fun _ => ⟨fun _ => ⟨fun _ => h, fun _ e => (by cases e)⟩, fun _ e => (by cases e)⟩, fun _ e => (by cases e)⟩
  · rw [f5]; rw [f6] at h
    dsimp only at h
    refine ⟨fun e => (by cases e), fun a5 e => ?_⟩
    cases e
    have hn := c_knn f8
    rw [f8.1.1]
    by_cases w : s < 0
    · rw [if_pos w] at h
      exact ⟨fun _ => ⟨fun e => (by cases e), fun _ _ => ⟨fun e => (by cases e), fun _ _ => h⟩⟩, fun w2 => absurd w w2⟩
    · rw [if_neg w] at h
      refine ⟨fun w2 => absurd w2 w, fun _ => ⟨f7, ?_⟩⟩
      obtain ⟨I, hI, eI⟩ := nI_of w
      rw [eI] at h ⊢
      rw [nI_clamp hI] at h
      by_cases w2 : I < A.2.1
      · rw [if_pos w2] at h
        refine ⟨fun _ => ⟨f7, f7, b_in (by omega) hI, fun e => (by cases e), fun _ _ => ?_⟩, fun w3 => absurd ((nI_ltI hI (by omega)).2 w2) w3⟩
        rw [nI_clamp hI, f10 I w2]
        exact h
      · rw [if_neg w2] at h
        refine ⟨fun w3 => absurd ((nI_ltI hI (by omega)).1 w3) w2, fun _ => ⟨fun e => (by cases e), fun _ _ => ⟨fun e => (by cases e), fun _ _ => h⟩⟩⟩
/-- best -/
theorem c_qB (hIV : c_IV G lm d5 cm mm np ns pp ss sa o_r g_o g_t mf mz mh ml gl gm gh vh vg v1 v2 v4 v7 v8 gi) (hmc : ∀ A, x_lt G.1 m = some A → (if G.2.1 m.toNatClampNeg 7 < 2 ^ A.2.1 then 1 else 0) ≤ mc ∧ (if G.2.1 m.toNatClampNeg 7 < 2 ^ A.2.1 then 2 ^ A.2.1 else 0) ≤ ms)
    (h0 : x_lt G.1 m = none → post (-1) d1 d2 d3 d4 d5 q_o G.2.2.2.1 o_r g_o g_t mm)
    (h1 : ∀ A S mm', x_lt G.1 m = some A → x_best (x_bg A.1 A.2.2.2.1) (fun e => (A.2.2.2.2 e).toInt) S → c_IV (G.1, va_up G.2.1 m.toNatClampNeg (x_g7 A.2.1 (G.2.1 m.toNatClampNeg)), G.2.2) lm d5 cm mm' np ns pp ss sa o_r g_o g_t mf mz mh ml gl gm gh vh vg v1 v2 v4 v7 v8 gi → post (nI S) d1 d2 d3 d4 d5 q_o G.2.2.2.1 o_r g_o g_t mm') : w346_wp lm cm np ns pa sa pp ss mc ms post m d1 d2 d3 d4 d5 q_o G.2.2.2.1 o_r g_o g_t mm := by
  refine c_at26 ?_
  rcases c_IVo (x := m) hIV with ⟨z1, z2⟩ | ⟨f, a, A, f1, f2, f3, f4, f5, f6, f7, f8, f9, f10, f11, f12, f13, f14⟩
  · rw [z1]
    exact ⟨fun _ => ⟨fun _ => h0 z2, fun _ e => (by cases e)⟩, fun _ e => (by cases e)⟩
  · rw [f5]
    refine ⟨fun e => (by cases e), fun a5 e => ?_⟩
    cases e
    have hfm : m.toNatClampNeg = f := by rw [f2, nI_clamp (Nat.lt_trans f1 (by decide))]
    rw [hfm] at hmc h1
    obtain ⟨c1, c2⟩ := hmc A f6
    have hrb := c_rcb (mm a) A.2.1
    rw [← f12] at hrb
    refine ⟨c_rc (mm a) A.2.1, c_rs (mm a) A.2.1, by omega, by omega, f7, c_bestB (w := fun e => (A.2.2.2.2 e).toInt) f7 f8.1 f8.2.1 (fun e he => by rw [f10 e he]) (Nat.le_refl _) (Nat.le_refl _) (fun M' S hQ hS => ?_)⟩
    have hqk := c_Qk f8 hQ
    have := h1 A S (va_up mm a M') f6 hS (c_IVa hIV f1 f4 f3 f7 hqk.1 hqk.2.1 (c_QRR hQ) (by rw [c_lvQ f8 hQ, ← f12]) (x_p47 f13))
    exact ⟨fun e => (by cases e), fun _ _ => this⟩
end CAM
