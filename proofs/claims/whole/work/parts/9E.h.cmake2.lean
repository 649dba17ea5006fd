/-! PURE, the class: make, whole -/
def x_bc (l_o : Nat) (g : Nat → Nat) (n : Nat) : Nat := (if 2 ^ (n + 1) ≤ l_o then 0 else 1) + (if 2 ^ n ≤ g 6 then 0 else 1)
def x_bs (l_o : Nat) (g : Nat → Nat) (n : Nat) : Nat := (if 2 ^ (n + 1) ≤ l_o then 0 else 2 ^ (n + 1)) + (if 2 ^ n ≤ g 6 then 0 else 2 ^ n)
/-- what make costs: of numbers or of a matroid (whose ranks may be asked for) -/
def x_mcc (num ask : Bool) (l_o l : Nat) (g0 gf : Nat → Nat) (nf n : Nat) : Nat := if num = true then (if 2 ^ n ≤ l then 0 else 3) + (if 2 ^ (n + 1) ≤ l_o then 0 else 1) + 2 + (x_bc (o_ln l_o n) g0 n + 1) else (if ask = true ∧ gf 7 < 2 ^ nf then 1 else 0) + (x_bc l_o g0 n + n)
def x_mcs (num ask : Bool) (l_o l : Nat) (g0 gf : Nat → Nat) (nf n : Nat) : Nat := if num = true then (if 2 ^ n ≤ l then 0 else 3 * 2 ^ n) + (if 2 ^ (n + 1) ≤ l_o then 0 else 2 ^ (n + 1)) + 148 + (x_bs (o_ln l_o n) g0 n + 3) else (if ask = true ∧ gf 7 < 2 ^ nf then 2 ^ nf else 0) + (x_bs l_o g0 n + 3 * n)
/-- a stamp that the witness keeps: none, or one that was given -/
def c_WS (st : Nat) (v : Int32) : Prop := v = -1 ∨ ∃ s, s ≤ st ∧ v = nI s
theorem c_WSm {st : Nat} {v : Int32} (h : c_WS st v) : c_WS (st + 1) v := by
  rcases h with h | ⟨s, h1, h2⟩
  · exact Or.inl h
  · exact Or.inr ⟨s, by omega, h2⟩
theorem c_WSn {st : Nat} {v : Int32} (h : c_WS st v) (hst : st + 1 < 2 ^ 31) : ¬ nI (st + 1) = v := fun e => by
  rcases h with h | ⟨s, h1, h2⟩
  · have := nI_pos hst
    rw [e, h] at this
    exact this (by decide)
  · rw [h2] at e
    have := (nI_eq (by omega) (by omega)).1 e
    omega
/-- the kept answer of the witness -/
def c_WT (lm : Nat → Option Nat) (mm : Nat → px_MR) (lt : Nat → Option x_LR) (st lw : Nat) (v1 v2 fd co de : Int32) (gi : Nat → Int32) : Prop :=
  c_WS st v1 ∧ c_WS st v2 ∧ ∀ x y a b A B, x < 26 → y < 26 → lm x = some a → lm y = some b → lt x = some A → lt y = some B → (mm a).2.1 11 = v1 → (mm b).2.1 11 = v2 → w_ans (x_bg A.1 A.2.2.2.1) (x_bg B.1 B.2.2.2.1) A.2.1 B.2.1 fd co de gi ∧ (B.2.2.1 ≤ A.2.2.1 → B.2.1 - B.2.2.1 ≤ A.2.1 - A.2.2.1 → c_R (mm a) A.2.1 (x_bg A.1 A.2.2.2.1) ∧ c_R (mm b) B.2.1 (x_bg B.1 B.2.2.2.1) ∧ 2 ^ A.2.1 ≤ lw)
/-- what a make statement makes -/
def c_mkH (num ask : Bool) (lt : Nat → Option x_LR) (sk : Nat → Nat → Nat) (sv : Nat) (sf s2 sd sh sx smn sr : Int32) (gn : Nat → Int32) (vs : List Int32) (C : x_LR) (sk1 : Nat → Nat → Nat) (nf : Nat) (gf : Nat → Nat) : Prop :=
  (num = true ∧ sf = -1 ∧ sk1 = sk ∧ ∃ p n k R, c_nm sv sd sh sx smn sr gn vs p n k R ∧ x_pm p ∧ n ≤ 12 ∧ C = x_raw p n k R) ∨
  (num = false ∧ ∃ f A, f < 26 ∧ sf = nI f ∧ lt f = some A ∧ nf = A.2.1 ∧ gf = sk f ∧
    ((sv = 3 ∧ ask = false ∧ s2 = -1 ∧ sk1 = sk ∧ C = x_mk1 3 [] A A) ∨ (sv = 7 ∧ ask = false ∧ s2 = -1 ∧ sk1 = sk ∧ C = x_mk1 7 [] A A) ∨ (sv = 6 ∧ ask = false ∧ sk1 = sk ∧ ∃ g B, g < 26 ∧ s2 = nI g ∧ lt g = some B ∧ A.1 = B.1 ∧ A.2.1 + B.2.1 ≤ 12 ∧ C = x_mk1 6 [] A B) ∨ ((sv = 4 ∨ sv = 5) ∧ ask = true ∧ s2 = -1 ∧ smn = nI vs.length ∧ (∀ j x, j < 160 → vs[j]? = some x → gn j = x) ∧ vs.length ≤ A.2.1 ∧ t_wi vs (nI A.2.1) = true ∧ sk1 = va_up sk f (x_g7 A.2.1 (sk f)) ∧ C = x_mk1 sv vs A A)))
theorem t_la26 {lm : Nat → Option Nat} {f : Nat} (hf : f < 26) : t_la lm (nI f) = lm f := by
  unfold t_la
  rw [if_neg (nI_pos (by omega)), if_pos (show nI f < 26 from nI_lt hf (by decide)), nI_clamp (by omega)]
theorem t_lam {lm : Nat → Option Nat} : t_la lm (-1) = none := by
  unfold t_la
  rw [if_pos (by decide)]
section CMW
variable {lm : Nat → Option Nat} {spare : Option Nat} {cm np ns a0 : Nat} {mm : Nat → px_MR} {st : Nat} {lt : Nat → Option x_LR} {sk : Nat → Nat → Nat} {pp pp' : Nat → px_PR} {sp sn sm sp' sn' sm' : Nat → Nat} {sK sK' : Nat → Nat → Nat → Int} {q q' np' ns' : Nat}
/-- asked -/
theorem c_LLa {f a1 : Nat} {A : x_LR} {M1 : px_MR} (h : ∀ x, x < 26 → (lm x = none ∧ lt x = none ∧ ∀ k, sk x k = 0) ∨ ∃ a A, lm x = some a ∧ lt x = some A ∧ a < cm ∧ c_GL np ns pp sp sn sm sK (mm a) A ∧ A.2.1 ≤ q ∧ sk x = c_lv (mm a)) (hi : ∀ x y a, x < 26 → y < 26 → lm x = some a → lm y = some a → x = y) (hf : f < 26) (ha : lm f = some a1) (hA : lt f = some A) (hk : c_kn M1 A.2.1 A.2.2.1 (x_bg A.1 A.2.2.2.1)) (hfr : c_fr (mm a1) M1) : ∀ x, x < 26 → (lm x = none ∧ lt x = none ∧ ∀ k, va_up sk f (c_lv M1) x k = 0) ∨ ∃ a A, lm x = some a ∧ lt x = some A ∧ a < cm ∧ c_GL np ns pp sp sn sm sK (va_up mm a1 M1 a) A ∧ A.2.1 ≤ q ∧ va_up sk f (c_lv M1) x = c_lv (va_up mm a1 M1 a) := fun x hx => by
  by_cases w : x = f
  · subst w
    rcases h x hx with z | ⟨a, A', e1, e2, e3, e4, e5, e6⟩
    · rw [z.1] at ha; cases ha
    · rw [e1] at ha; cases ha
      rw [e2] at hA; cases hA
      refine Or.inr ⟨a1, A, e1, e2, e3, ?_, e5, ?_⟩
      · rw [va_up_self]; exact c_Ga e4 hk hfr
      · rw [va_up_self, va_up_self]
  · rw [va_up_ne _ _ w]
    rcases h x hx with z | ⟨a, A', e1, e2, e3, e4, e5, e6⟩
    · exact Or.inl z
    · have : a ≠ a1 := fun z => w (hi x f a hx hf e1 (by rw [ha, z]))
      exact Or.inr ⟨a, A', e1, e2, e3, by rw [va_up_ne _ _ this]; exact e4, e5, by rw [va_up_ne _ _ this]; exact e6⟩
theorem c_sta {a1 a : Nat} {M1 : px_MR} (hfr : c_fr (mm a1) M1) : (va_up mm a1 M1 a).2.1 11 = (mm a).2.1 11 := by
  by_cases w : a = a1
  · rw [w, va_up_self]; exact hfr.1 11 (by decide) (by decide)
  · rw [va_up_ne _ _ w]
theorem c_LXa {f a1 : Nat} {A : x_LR} {M1 : px_MR} (h : c_LX lm a0 cm mm st lt sk np ns pp sp sn sm sK q) (hf : f < 26) (ha : lm f = some a1) (hA : lt f = some A) (hk : c_kn M1 A.2.1 A.2.2.1 (x_bg A.1 A.2.2.2.1)) (hfr : c_fr (mm a1) M1) : c_LX lm a0 cm (va_up mm a1 M1) st lt (va_up sk f (c_lv M1)) np ns pp sp sn sm sK q := by
  obtain ⟨h1, h2, h3, h4, h5, h6⟩ := h
  refine ⟨h1, c_LLa h2 h3 hf ha hA hk hfr, h3, h4, fun a ha' hne => ?_, fun a b ha' hb na nb e => ?_⟩
  · obtain ⟨v, s⟩ := h5 a ha' hne
    refine ⟨?_, by rw [c_sta hfr]; exact s⟩
    by_cases w : a = a1
    · rw [w, va_up_self]; exact c_knv hk
    · rw [va_up_ne _ _ w]; exact v
  · rw [c_sta hfr, c_sta hfr] at e
    exact h6 a b ha' hb na nb e
theorem c_LTa {f a1 : Nat} {A : x_LR} {M1 : px_MR} (h : c_LT lm spare cm mm st lt sk np ns pp sp sn sm sK q) (hf : f < 26) (ha : lm f = some a1) (hA : lt f = some A) (hk : c_kn M1 A.2.1 A.2.2.1 (x_bg A.1 A.2.2.2.1)) (hfr : c_fr (mm a1) M1) : c_LT lm spare cm (va_up mm a1 M1) st lt (va_up sk f (c_lv M1)) np ns pp sp sn sm sK q := by
  obtain ⟨h1, h2, h3, h4, h5, h6⟩ := h
  refine ⟨h1, c_LLa h2 h3 hf ha hA hk hfr, h3, ?_, fun a ha' => ?_, fun a b ha' hb e => ?_⟩
  · rw [va_up_ne _ _ (show 26 ≠ f by omega)]
    rcases h4 with z | ⟨a, e1, e2, e3, e4⟩
    · exact Or.inl z
    · have : a ≠ a1 := fun z => e4 f (by rw [ha, z])
      exact Or.inr ⟨a, e1, e2, by rw [va_up_ne _ _ this]; exact e3, e4⟩
  · obtain ⟨v, s⟩ := h5 a ha'
    refine ⟨?_, by rw [c_sta hfr]; exact s⟩
    by_cases w : a = a1
    · rw [w, va_up_self]; exact c_knv hk
    · rw [va_up_ne _ _ w]; exact v
  · rw [c_sta hfr, c_sta hfr] at e
    exact h6 a b ha' hb e
/-- pools grow, a0 is made -/
theorem c_LXp {mm' : Nat → px_MR} (h : c_LX lm a0 cm mm st lt sk np ns pp sp sn sm sK q) (hm : ∀ i, i ≠ a0 → mm' i = mm i) (hp : np ≤ np') (hs : ns ≤ ns') (h1 : ∀ x, x < np → pp' x = pp x) (h2 : ∀ z, z < ns → sp' z = sp z ∧ sn' z = sn z ∧ sm' z = sm z ∧ sK' z = sK z) (hq : q ≤ q') : c_LX lm a0 cm mm' st lt sk np' ns' pp' sp' sn' sm' sK' q' := by
  obtain ⟨g1, g2, g3, g4, g5, g6⟩ := h
  refine ⟨g1, fun x hx => ?_, g3, g4, fun a ha hne => by rw [hm a hne]; exact g5 a ha hne, fun a b ha hb na nb e => g6 a b ha hb na nb (by rw [hm a na, hm b nb] at e; exact e)⟩
  rcases g2 x hx with z | ⟨a, A, e1, e2, e3, e4, e5, e6⟩
  · exact Or.inl z
  · have : a ≠ a0 := fun z => g4 x (by rw [e1, z])
    refine Or.inr ⟨a, A, e1, e2, e3, ?_, by omega, by rw [hm a this]; exact e6⟩
    rw [hm a this]
    exact c_Gx e4 hp hs h1 h2
theorem c_LXl {f : Nat} {A : x_LR} (h : c_LX lm a0 cm mm st lt sk np ns pp sp sn sm sK q) (hf : f < 26) (hA : lt f = some A) : ∃ a, lm f = some a ∧ a < cm ∧ a ≠ a0 ∧ c_GL np ns pp sp sn sm sK (mm a) A ∧ A.2.1 ≤ q ∧ sk f = c_lv (mm a) := by
  rcases h.2.1 f hf with z | ⟨a, A', e1, e2, e3, e4, e5, e6⟩
  · rw [z.2.1] at hA; cases hA
  · rw [e2] at hA; cases hA
    exact ⟨a, e1, e3, fun z => h.2.2.2.1 f (by rw [e1, z]), e4, e5, e6⟩
theorem c_LTl {f : Nat} {A : x_LR} (h : c_LT lm spare cm mm st lt sk np ns pp sp sn sm sK q) (hf : f < 26) (hA : lt f = some A) : ∃ a, lm f = some a ∧ a < cm ∧ c_GL np ns pp sp sn sm sK (mm a) A ∧ A.2.1 ≤ q ∧ sk f = c_lv (mm a) := by
  rcases h.2.1 f hf with z | ⟨a, A', e1, e2, e3, e4, e5, e6⟩
  · rw [z.2.1] at hA; cases hA
  · rw [e2] at hA; cases hA
    exact ⟨a, e1, e3, e4, e5, e6⟩
theorem c_rcb (M : px_MR) (n : Nat) : c_rc M n ≤ (if c_lv M 7 < 2 ^ n then 1 else 0) ∧ c_rs M n ≤ (if c_lv M 7 < 2 ^ n then 2 ^ n else 0) := by
  have e : c_lv M 7 = M.2.2.1 7 := rfl
  unfold c_rc c_rs
  rw [e]
  by_cases q : M.2.2.1 7 < 2 ^ n
  · rw [if_pos q, if_pos q]
    exact ⟨by split <;> omega, by split <;> omega⟩
  · rw [if_neg q, if_neg q, if_neg (fun z => q z.2), if_neg (fun z => q z.2)]
    exact ⟨Nat.le_refl _, Nat.le_refl _⟩
end CMW
