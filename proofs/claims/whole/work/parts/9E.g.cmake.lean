/-! PURE, the class: what holds between statements; make -/
def x_g7 (n : Nat) (g : Nat → Nat) (k : Nat) : Nat := if k = 7 then max (g 7) (2 ^ n) else g k
theorem c_rlm {M : px_MR} {n r : Nat} {b : Nat → Bool} (h : c_kn M n r b) : c_rl M n = max (M.2.2.1 7) (2 ^ n) := by
  unfold c_rl
  by_cases q : M.2.1 9 = 0
  · rw [if_pos q]
  · rw [if_neg q]
    rcases h.2.1 with z | z
    · exact absurd z q
    · have := z.2.1
      omega
theorem c_lvQ {M M' : px_MR} {n r : Nat} {b : Nat → Bool} (h : c_kn M n r b) (hQ : c_Q M M' n b) : c_lv M' = x_g7 n (c_lv M) := by
  funext k
  unfold c_lv x_g7
  by_cases q : k = 7
  · subst q
    show M'.2.2.1 7 = max (M.2.2.1 7) (2 ^ n)
    rw [hQ.2.2.1, c_rlm h]
  · rw [if_neg q, hQ.2.1.2.2.1 k q, hQ.2.1.2.2.2.1 5 (by decide), hQ.2.1.2.1 10 (by decide)]
theorem c_lvR {M : px_MR} {n : Nat} {b : Nat → Bool} (h : c_R M n b) : x_g7 n (c_lv M) = c_lv M := by
  funext k
  unfold c_lv x_g7
  by_cases q : k = 7
  · subst q
    show max (M.2.2.1 7) (2 ^ n) = M.2.2.1 7
    have := h.2.1
    omega
  · rw [if_neg q]
theorem c_lvZ {M M' : px_MR} {n r : Nat} {b : Nat → Bool} (h : c_kn M n r b) (hZ : c_Z M M' n b) (hR : c_R M' n b) : c_lv M' = x_g7 n (c_lv M) := by
  rcases hZ with z | z
  · rw [z] at hR ⊢
    exact (c_lvR hR).symm
  · exact c_lvQ h z
/-- letters and the matroids of the pool, but for a0 -/
def c_LX (lm : Nat → Option Nat) (a0 cm : Nat) (mm : Nat → px_MR) (st : Nat) (lt : Nat → Option x_LR) (sk : Nat → Nat → Nat) (np ns : Nat) (pp : Nat → px_PR) (sp sn sm : Nat → Nat) (sK : Nat → Nat → Nat → Int) (q : Nat) : Prop :=
  (∀ x, 26 ≤ x → lm x = none) ∧ (∀ x, x < 26 → (lm x = none ∧ lt x = none ∧ ∀ k, sk x k = 0) ∨ ∃ a A, lm x = some a ∧ lt x = some A ∧ a < cm ∧ c_GL np ns pp sp sn sm sK (mm a) A ∧ A.2.1 ≤ q ∧ sk x = c_lv (mm a)) ∧ (∀ x y a, x < 26 → y < 26 → lm x = some a → lm y = some a → x = y) ∧ (∀ x, lm x ≠ some a0) ∧ (∀ a, a < cm → a ≠ a0 → c_vac (mm a) ∧ ∃ s, 1 ≤ s ∧ s ≤ st ∧ (mm a).2.1 11 = nI s) ∧ (∀ a b, a < cm → b < cm → a ≠ a0 → b ≠ a0 → (mm a).2.1 11 = (mm b).2.1 11 → a = b)
def c_LT (lm : Nat → Option Nat) (spare : Option Nat) (cm : Nat) (mm : Nat → px_MR) (st : Nat) (lt : Nat → Option x_LR) (sk : Nat → Nat → Nat) (np ns : Nat) (pp : Nat → px_PR) (sp sn sm : Nat → Nat) (sK : Nat → Nat → Nat → Int) (q : Nat) : Prop :=
  (∀ x, 26 ≤ x → lm x = none) ∧ (∀ x, x < 26 → (lm x = none ∧ lt x = none ∧ ∀ k, sk x k = 0) ∨ ∃ a A, lm x = some a ∧ lt x = some A ∧ a < cm ∧ c_GL np ns pp sp sn sm sK (mm a) A ∧ A.2.1 ≤ q ∧ sk x = c_lv (mm a)) ∧ (∀ x y a, x < 26 → y < 26 → lm x = some a → lm y = some a → x = y) ∧ ((spare = none ∧ ∀ k, sk 26 k = 0) ∨ ∃ a, spare = some a ∧ a < cm ∧ sk 26 = c_lv (mm a) ∧ ∀ x, lm x ≠ some a) ∧ (∀ a, a < cm → c_vac (mm a) ∧ ∃ s, 1 ≤ s ∧ s ≤ st ∧ (mm a).2.1 11 = nI s) ∧ (∀ a b, a < cm → b < cm → (mm a).2.1 11 = (mm b).2.1 11 → a = b)
/-- the pools of parts and sources, the orders, the tables -/
def c_PW (cm np ns : Nat) (mm : Nat → px_MR) (pp : Nat → px_PR) (ss : Nat → px_SR) (sa : Nat → Nat) (sp sn sm : Nat → Nat) (sK : Nat → Nat → Nat → Int) (l_o : Nat) (o_r : Int32) (g_o g_t : Nat → Int32) (q l : Nat) (mf mz mh : Int32) (ml : Option Nat) (gl gm gh : Nat → Int64) : Prop :=
  o_Ok l_o o_r g_o g_t q ∧ c_PO np ns pp ∧ c_SS ns ss sp sn sm sK ∧ c_MN ns sa sp sn sm sK l mf mz mh ml gl gm gh ∧ px_pok cm np mm ∧ ∀ z, z < ns → sn z ≤ q
/-- a new matroid's lengths -/
def x_g0 (k : Nat) : Nat := if k = 6 ∨ k = 7 ∨ (20 ≤ k ∧ k < 24) then 16 else if 30 ≤ k ∧ k < 34 then 1 else 0
theorem c_lv0 (ho n1 n2 n3 n4 n5 n6 n7 n8 : Nat) (v9 v11 v12 v13 v14 : Int32) : c_lv (px_nR ho n1 n2 n3 n4 n5 n6 n7 n8 v9 0 v11 v12 v13 v14) = x_g0 := by
  funext k
  unfold c_lv x_g0 px_nR
  by_cases q : k = 8
  · subst q; rfl
  · by_cases w : k = 6 ∨ k = 7 ∨ (20 ≤ k ∧ k < 24)
    · rw [if_pos w, if_pos (by omega)]
      show (if k = 8 then 0 else 16) = 16
      rw [if_neg q]
    · rw [if_neg w, if_neg (by omega)]
      by_cases w2 : 30 ≤ k ∧ k < 34
      · rw [if_pos w2, if_pos w2]; exact if_neg (show ¬ (0 : Int32) = -1 by decide)
      · rw [if_neg w2, if_neg w2]
        by_cases w3 : k = 29
        · rw [if_pos w3]; rfl
        · rw [if_neg w3]
theorem c_va0 (ho n1 n2 n3 n4 n5 n6 n7 n8 : Nat) (v9 v10 v11 v12 v13 v14 : Int32) : c_vac (px_nR ho n1 n2 n3 n4 n5 n6 n7 n8 v9 v10 v11 v12 v13 v14) := by
  refine ⟨by show 16 ≤ 16; decide, by show 16 ≤ 4096; decide, ⟨4, rfl⟩, by show 16 ≤ 16; decide, by show 16 ≤ 4096; decide, ⟨4, rfl⟩, Or.inl rfl, fun k hk => ?_⟩
  have e : (px_nR ho n1 n2 n3 n4 n5 n6 n7 n8 v9 v10 v11 v12 v13 v14).2.2.1 (20 + k) = 16 := by
    show (if 20 + k = 8 then 0 else 16) = 16
    rw [if_neg (by omega)]
  rw [e]
  exact ⟨by decide, by decide⟩
section CMK
variable {lm : Nat → Option Nat} {spare : Option Nat} {cm np ns a0 : Nat} {mm : Nat → px_MR} {st : Nat} {lt : Nat → Option x_LR} {sk : Nat → Nat → Nat} {pp : Nat → px_PR} {sp sn sm : Nat → Nat} {sK : Nat → Nat → Nat → Int} {q : Nat}
theorem c_Gst {M : px_MR} {p n r : Nat} {g : Nat → Int} {w : Nat → Int32} {z : Int32} (h : c_G np ns pp sp sn sm sK M p n r g w) : c_G np ns pp sp sn sm sK (M.1, va_up M.2.1 11 z, M.2.2) p n r g w := h
theorem c_LTX {a : Nat} (h : c_LT lm (some a) cm mm st lt sk np ns pp sp sn sm sK q) : c_LX lm a cm mm st lt sk np ns pp sp sn sm sK q ∧ a < cm ∧ c_vac (mm a) ∧ sk 26 = c_lv (mm a) := by
  obtain ⟨h1, h2, h3, h4, h5, h6⟩ := h
  rcases h4 with ⟨z, _⟩ | ⟨a', e, h41, h42, h43⟩
  · cases z
  · cases e
    exact ⟨⟨h1, h2, h3, h43, fun b hb _ => h5 b hb, fun b c hb hc _ _ => h6 b c hb hc⟩, h41, (h5 a h41).1, h42⟩
theorem c_LTN {M : px_MR} (h : c_LT lm none cm mm st lt sk np ns pp sp sn sm sK q) : c_LX lm cm (cm + 1) (va_up mm cm M) st lt sk np ns pp sp sn sm sK q := by
  obtain ⟨h1, h2, h3, h4, h5, h6⟩ := h
  have hu : ∀ a, a < cm → va_up mm cm M a = mm a := fun a ha => va_up_ne _ _ (by omega)
  refine ⟨h1, fun x hx => ?_, h3, fun x e => ?_, fun a ha hne => ?_, fun a b ha hb na nb e => ?_⟩
  · rcases h2 x hx with z | ⟨a, A, e1, e2, e3, e4, e5, e6⟩
    · exact Or.inl z
    · exact Or.inr ⟨a, A, e1, e2, by omega, by rw [hu a e3]; exact e4, e5, by rw [hu a e3]; exact e6⟩
  · by_cases hx : x < 26
    · rcases h2 x hx with z | ⟨a, A, e1, e2, e3, e4⟩
      · rw [z.1] at e; cases e
      · rw [e1] at e; cases e; omega
    · rw [h1 x (by omega)] at e; cases e
  · rw [hu a (by omega)]; exact h5 a (by omega)
  · rw [hu a (by omega), hu b (by omega)] at e
    exact h6 a b (by omega) (by omega) e
/-- the matroid a0 is made, and gets its stamp and its letter -/
theorem c_LXT {C : x_LR} {x : Nat} {g1 : Nat → Nat} (h : c_LX lm a0 cm mm st lt sk np ns pp sp sn sm sK q) (ha0 : a0 < cm) (hx : x < 26) (hst : st + 1 < 2 ^ 31) (hC : c_GL np ns pp sp sn sm sK (mm a0) C) (hq : C.2.1 ≤ q) (hg : g1 = c_lv (mm a0)) :
    c_LT (va_up lm x (some a0)) (lm x) cm (va_up mm a0 ((mm a0).1, va_up (mm a0).2.1 11 (nI (st + 1)), (mm a0).2.2)) (st + 1) (va_up lt x (some C)) (va_up (va_up sk 26 (sk x)) x g1) np ns pp sp sn sm sK q := by
  obtain ⟨h1, h2, h3, h4, h5, h6⟩ := h
  have hun : ∀ a, a ≠ a0 → va_up mm a0 ((mm a0).1, va_up (mm a0).2.1 11 (nI (st + 1)), (mm a0).2.2) a = mm a := fun a ha => va_up_ne _ _ ha
  have hus : va_up mm a0 ((mm a0).1, va_up (mm a0).2.1 11 (nI (st + 1)), (mm a0).2.2) a0 = ((mm a0).1, va_up (mm a0).2.1 11 (nI (st + 1)), (mm a0).2.2) := va_up_self _ _ _
  have hst0 : (va_up mm a0 ((mm a0).1, va_up (mm a0).2.1 11 (nI (st + 1)), (mm a0).2.2) a0).2.1 11 = nI (st + 1) := by rw [hus]; exact va_up_self (mm a0).2.1 11 _
  have hlv : c_lv (va_up mm a0 ((mm a0).1, va_up (mm a0).2.1 11 (nI (st + 1)), (mm a0).2.2) a0) = c_lv (mm a0) := by rw [hus]; rfl
  have hvac : c_vac (va_up mm a0 ((mm a0).1, va_up (mm a0).2.1 11 (nI (st + 1)), (mm a0).2.2) a0) := by rw [hus]; exact c_knv (show c_kn (mm a0) _ _ _ from hC.2.2.2.2.1)
  generalize hMM : va_up mm a0 ((mm a0).1, va_up (mm a0).2.1 11 (nI (st + 1)), (mm a0).2.2) = mm' at *
  have hG0 : c_GL np ns pp sp sn sm sK (mm' a0) C := by
    rw [hus]; exact c_Gst (show c_G np ns pp sp sn sm sK (mm a0) _ _ _ _ _ from hC)
  refine ⟨fun y hy => by rw [va_up_ne _ _ (by omega)]; exact h1 y hy, fun y hy => ?_, fun y z a hy hz ey ez => ?_, ?_, fun a ha => ?_, fun a b ha hb e => ?_⟩
  · by_cases w : y = x
    · subst w
      refine Or.inr ⟨a0, C, va_up_self _ _ _, va_up_self _ _ _, ha0, hG0, hq, ?_⟩
      rw [va_up_self, hg, hlv]
    · rw [va_up_ne _ _ w, va_up_ne _ _ w, va_up_ne _ _ w, va_up_ne _ _ (show y ≠ 26 by omega)]
      rcases h2 y hy with z | ⟨a, A, e1, e2, e3, e4, e5, e6⟩
      · exact Or.inl z
      · have : a ≠ a0 := fun z => h4 y (by rw [e1, z])
        exact Or.inr ⟨a, A, e1, e2, e3, by rw [hun a this]; exact e4, e5, by rw [hun a this]; exact e6⟩
  · by_cases wy : y = x
    · by_cases wz : z = x
      · rw [wy, wz]
      · rw [wy, va_up_self] at ey
        cases ey
        rw [va_up_ne _ _ wz] at ez
        exact absurd ez (h4 z)
    · rw [va_up_ne _ _ wy] at ey
      by_cases wz : z = x
      · rw [wz, va_up_self] at ez
        cases ez
        exact absurd ey (h4 y)
      · rw [va_up_ne _ _ wz] at ez
        exact h3 y z a hy hz ey ez
  · rw [va_up_ne _ _ (show 26 ≠ x by omega), va_up_self]
    rcases h2 x hx with ⟨z1, z2, z3⟩ | ⟨a, A, e1, e2, e3, e4, e5, e6⟩
    · exact Or.inl ⟨z1, z3⟩
    · have : a ≠ a0 := fun z => h4 x (by rw [e1, z])
      refine Or.inr ⟨a, e1, e3, by rw [hun a this]; exact e6, fun y => ?_⟩
      by_cases w : y = x
      · rw [w, va_up_self]; intro z; cases z; exact this rfl
      · rw [va_up_ne _ _ w]
        intro z
        by_cases hy : y < 26
        · exact w (h3 y x a hy hx z e1)
        · rw [h1 y (by omega)] at z; cases z
  · by_cases w : a = a0
    · rw [w]
      exact ⟨hvac, st + 1, by omega, Nat.le_refl _, hst0⟩
    · rw [hun a w]
      obtain ⟨v, s, s1, s2, s3⟩ := h5 a ha w
      exact ⟨v, s, s1, by omega, s3⟩
  · have key : ∀ a, a < cm → a ≠ a0 → (mm' a).2.1 11 ≠ nI (st + 1) := fun a ha w e => by
      rw [hun a w] at e
      obtain ⟨v, s, s1, s2, s3⟩ := h5 a ha w
      rw [s3] at e
      have := (nI_eq (by omega) (by omega)).1 e
      omega
    by_cases wa : a = a0
    · by_cases wb : b = a0
      · rw [wa, wb]
      · rw [wa, hst0] at e
        exact absurd e.symm (key b hb wb)
    · by_cases wb : b = a0
      · rw [wb, hst0] at e
        exact absurd e (key a ha wa)
      · rw [hun a wa, hun b wb] at e
        exact h6 a b ha hb wa wb e
end CMK
