/-! PURE, the class: asking one matroid: tutte, sign, below -/
abbrev c_aL64 := Int64 → Int32 → Int32 → Int32 → Int32 → Option Nat → Nat → Nat → Int32 → (Nat → Int32) → (Nat → Int32) → (Nat → px_MR) → Prop
/-- a place of the polynomial -/
def x_ij (n r : Nat) (i j : Int32) : Option (Nat × Nat) := if i < 0 ∨ j < 0 then none else if i.toNatClampNeg ≤ r ∧ j.toNatClampNeg ≤ n - r then some (i.toNatClampNeg, j.toNatClampNeg) else none
section CAN
variable {mc ms : Nat} {d1 d2 d3 d4 : Int32} {d5 : Option Nat} {lm : Nat → Option Nat} {q_o l_o : Nat} {o_r : Int32} {g_o g_t : Nat → Int32} {mf mz mh : Int32} {ml : Option Nat} {gl gm gh : Nat → Int64} {vh vg : Option Nat} {v1 v2 v3 v4 v5 v6 v7 v8 v9 : Int32} {gi gp gq gk gr gg : Nat → Int32} {mm : Nat → px_MR} {cm np ns : Nat} {hm pa sa : Nat → Nat} {pp : Nat → px_PR} {ss : Nat → px_SR} {G : x_GS} {post : c_aT} {m : Int32}
theorem c_qT {post : c_aL64} {i j : Int32} (hIV : c_IV G lm d5 cm mm np ns pp ss sa o_r g_o g_t mf mz mh ml gl gm gh vh vg v1 v2 v4 v7 v8 gi) (hmc : ∀ A x, x_lt G.1 m = some A → x_ij A.2.1 A.2.2.1 i j = some x → x_tcc A.2.1 (G.2.1 m.toNatClampNeg) ≤ mc ∧ x_tcs A.2.1 (G.2.1 m.toNatClampNeg) ≤ ms)
    (h0 : (∀ A, x_lt G.1 m = some A → x_ij A.2.1 A.2.2.1 i j = none) → post 0 d1 d2 d3 d4 d5 q_o G.2.2.2.1 o_r g_o g_t mm)
    (h1 : ∀ A x mm', x_lt G.1 m = some A → x_ij A.2.1 A.2.2.1 i j = some x → c_IV (G.1, va_up G.2.1 m.toNatClampNeg (x_gT A.2.1 (G.2.1 m.toNatClampNeg)), G.2.2) lm d5 cm mm' np ns pp ss sa o_r g_o g_t mf mz mh ml gl gm gh vh vg v1 v2 v4 v7 v8 gi → post (x_T Int64 (x_bg A.1 A.2.2.2.1) A.2.1 A.2.2.1 x.1 x.2) d1 d2 d3 d4 d5 q_o G.2.2.2.1 o_r g_o g_t mm') : w344_wp lm cm np ns pa sa pp ss mc ms post m i j d1 d2 d3 d4 d5 q_o G.2.2.2.1 o_r g_o g_t mm := by
  refine c_at26 ?_
  rcases c_IVo (x := m) hIV with ⟨z1, z2⟩ | ⟨f, a, A, f1, f2, f3, f4, f5, f6, f7, f8, f9, f10, f11, f12, f13, f14⟩
  · rw [z1]
    exact ⟨fun _ => ⟨fun _ => h0 (fun A e => by rw [z2] at e; cases e), fun _ e => (by cases e)⟩, fun _ e => (by cases e)⟩
  · rw [f5]
    refine ⟨fun e => (by cases e), fun a5 e => ?_⟩
    cases e
    have hfm : m.toNatClampNeg = f := by rw [f2, nI_clamp (Nat.lt_trans f1 (by decide))]
    rw [hfm] at hmc h1
    have hn := c_knn f8
    have hr := x_rlen f8.1.2.2.1
    cases hh : x_ij A.2.1 A.2.2.1 i j with
    | none =>
      have fin := h0 (fun A' e => by rw [f6] at e; cases e; exact hh)
      refine ⟨0, 0, Nat.zero_le _, Nat.zero_le _, f7, ?_⟩
      have out : w280_L29 a cm np ns pa sa pp ss 0 0 (fun r20 v15 v16 v17 v18 v19 v20 => w344_L23 lm cm np ns pa sa pp ss mc ms post m i j (some a) r20 d1 d2 d3 d4 d5 v15 v16 v17 v18 v19 v20 (0 + 0) (0 + 0)) i j q_o G.2.2.2.1 o_r g_o g_t mm 0 0 := ⟨fun e => (by cases e), fun _ _ => fin⟩
      unfold x_ij at hh
      refine ⟨fun _ => out, fun w1 => ⟨f7, fun _ => out, fun w2 => ⟨fun _ => out, fun w3 => ⟨f7, f7, fun w4 => ?_, fun _ => out⟩⟩⟩⟩
      exfalso
      rw [if_neg (fun z => z.elim w1 w3)] at hh
      obtain ⟨I, hI, eI⟩ := nI_of w1
      obtain ⟨J, hJ, eJ⟩ := nI_of w3
      rw [f8.1.2.1, eI] at w2
      rw [f8.1.1, f8.1.2.1, eJ, nI_subn hr] at w4
      rw [eI, eJ, nI_clamp hI, nI_clamp hJ] at hh
      have a1 : I ≤ A.2.2.1 := Classical.byContradiction (fun z => w2 ((nI_ltI (by omega) hI).2 (by omega)))
      have a2 : J ≤ A.2.1 - A.2.2.1 := (nI_leI hJ (by omega)).1 w4
      rw [if_pos ⟨a1, a2⟩] at hh
      cases hh
    | some x =>
      obtain ⟨c1, c2⟩ := hmc A x f6 hh
      have hx : ∃ I J, i = nI I ∧ j = nI J ∧ I ≤ A.2.2.1 ∧ J ≤ A.2.1 - A.2.2.1 ∧ x = (I, J) := by
        unfold x_ij at hh
        by_cases w : i < 0 ∨ j < 0
        · rw [if_pos w] at hh; cases hh
        · rw [if_neg w] at hh
          obtain ⟨I, hI, eI⟩ := nI_of (fun z => w (Or.inl z))
          obtain ⟨J, hJ, eJ⟩ := nI_of (fun z => w (Or.inr z))
          rw [eI, eJ, nI_clamp hI, nI_clamp hJ] at hh
          by_cases w2 : I ≤ A.2.2.1 ∧ J ≤ A.2.1 - A.2.2.1
          · rw [if_pos w2] at hh; cases hh; exact ⟨I, J, eI, eJ, w2.1, w2.2, rfl⟩
          · rw [if_neg w2] at hh; cases hh
      obtain ⟨I, J, e1, e2, e3, e4, e5⟩ := hx
      subst e5
      subst e1
      subst e2
      have hpc := c_pcb (mm a) A.2.1
      rw [← f12] at hpc
      refine ⟨c_pc (mm a) A.2.1, c_ps (mm a) A.2.1, by omega, by omega, f7, c_aP f7 f8 e3 e4 (Nat.le_refl _) (Nat.le_refl _) (fun M' m1 m2 m3 m4 m5 m6 => ?_)⟩
      have := h1 A (I, J) (va_up mm a M') f6 hh (c_IVa hIV f1 f4 f3 f7 m1 m2 m4 (by rw [m3, ← f12]) (x_p4T f13))
      exact ⟨fun e => (by cases e), fun _ _ => this⟩
/-- sign -/
theorem c_qS {s : Int32} (hIV : c_IV G lm d5 cm mm np ns pp ss sa o_r g_o g_t mf mz mh ml gl gm gh vh vg v1 v2 v4 v7 v8 gi) (h : post (match x_lt G.1 m with | none => 2 | some A => if A.1 = 0 then (match x_hs A.2.1 s with | none => 2 | some S => if x_n S = A.2.2.1 then x_sgn2 A.1 A.2.1 A.2.2.1 (x_Fg A.1 A.2.2.2.1) S else 2) else 2) d1 d2 d3 d4 d5 q_o l_o o_r g_o g_t mm) : w349_wp lm cm np ns pa sa pp ss post m s d1 d2 d3 d4 d5 q_o l_o o_r g_o g_t mm := by
  refine c_at26 ?_
  rcases c_IVo (x := m) hIV with ⟨z1, z2⟩ | ⟨f, a, A, f1, f2, f3, f4, f5, f6, f7, f8, f9, f10, f11, f12, f13, f14, f15⟩
  · rw [z1]; rw [z2] at h
    exact ⟨fun _ => ⟨fun _ => h, fun _ e => (by cases e)⟩, fun _ e => (by cases e)⟩
  · rw [f5]; rw [f6] at h
    dsimp only at h
    refine ⟨fun e => (by cases e), fun a5 e => ?_⟩
    cases e
    have hn := c_knn f8
    have hr := x_rlen f8.1.2.2.1
    have hp := (x_pmb f14).2
    rw [f9]
    refine ⟨f7, fun w => ?_, fun w => ⟨f7, ?_⟩⟩
    · rw [if_neg (fun z => w (by rw [z]; rfl))] at h
      exact ⟨fun e => (by cases e), fun _ _ => h⟩
    · have hp0 : A.1 = 0 := (nI_eq (b := 0) (by omega) (by decide)).1 w
      rw [if_pos hp0] at h
      refine c_holds f7 hn.1 f8.1.1 ?_
      cases hh : x_hs A.2.1 s with
      | none =>
        rw [hh] at h
        exact ⟨fun z => absurd rfl z, fun _ => ⟨fun e => (by cases e), fun _ _ => h⟩⟩
      | some S =>
        rw [hh] at h
        dsimp only at h
        obtain ⟨e1, e2⟩ := x_hsS hh
        subst e1
        have hnS := x_nlen hn.1 e2
        have h6 : 2 ^ A.2.1 ≤ (mm a).2.2.1 6 := f8.1.2.2.2.1
        have h64 : (mm a).2.2.1 6 ≤ 4096 := f8.2.2.2.2.2.1
        refine ⟨fun _ => b_bc (by omega) ⟨f7, ?_⟩, fun z => absurd (show (1 : Int32) = 0 from z) (by decide)⟩
        rw [f8.1.2.1]
        refine ⟨fun w2 => ?_, fun w2 => ⟨f7, f7, b_in (by omega) (by omega), ?_⟩⟩
        · rw [if_neg (fun z => w2 (by rw [z]))] at h
          exact ⟨fun e => (by cases e), fun _ _ => h⟩
        · have : x_n S = A.2.2.1 := (nI_eq (by omega) (by omega)).1 w2
          rw [if_pos this] at h
          rw [nI_clamp (by omega), f11 S e2]
          exact ⟨fun e => (by cases e), fun _ _ => h⟩
end CAN
