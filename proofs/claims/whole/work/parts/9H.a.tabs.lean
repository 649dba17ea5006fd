/-! the reference's tables: what its constructor lays down -/
/-- f1 is f, and from n on the numbers of l -/
def px_lo (f f1 : Nat → Int32) (n : Nat) (l : List Nat) : Prop := (∀ i, i < n → f1 i = f i) ∧ ∀ i x, l[i]? = some x → f1 (n + i) = nI x
theorem px_lo0 (f : Nat → Int32) (n : Nat) : px_lo f f n [] := ⟨fun _ _ => rfl, fun i x h => by cases h⟩
theorem px_lo1 {f : Nat → Int32} {n v : Nat} (hn : n < 4096) : px_lo f (upd f (nI n).toNatClampNeg (nI v)) n [v] := by
  rw [nI_clamp (by omega)]
  refine ⟨fun i hi => pk_un (by omega), fun i x h => ?_⟩
  cases i with
  | zero =>
    have e : v = x := by simpa using h
    subst e
    exact pk_us
  | succ i => simp at h
theorem px_loA {f f1 f2 : Nat → Int32} {n : Nat} {l l1 : List Nat} (h : px_lo f f1 n l) (h1 : px_lo f1 f2 (n + l.length) l1) : px_lo f f2 n (l ++ l1) := by
  refine ⟨fun i hi => by rw [h1.1 i (by omega), h.1 i hi], fun i x hx => ?_⟩
  by_cases q : i < l.length
  · rw [List.getElem?_append_left q] at hx
    rw [h1.1 (n + i) (by omega)]
    exact h.2 i x hx
  · rw [List.getElem?_append_right (by omega)] at hx
    have := h1.2 (i - l.length) x hx
    rw [show n + l.length + (i - l.length) = n + i by omega] at this
    exact this
/-- sizes behind a call of list -/
def px_zz (d st : Nat) (l : List Nat) (g g1 : Nat → Int32) : Prop := (st = 0 → ¬ d = 0 → ∀ S, g1 S = if S ∈ l then nI d else g S) ∧ (¬ (st = 0 ∧ ¬ d = 0) → g1 = g)
theorem x_lstS {f k s : Nat} (h : f + k < 12) : x_lst (k + 1) f s = x_lst k (f + 1) (s ||| 2 ^ f) ++ x_lst (k + 1) (f + 1) s := by
  show (List.range (12 - k - f)).flatMap (fun d => x_lst k (f + d + 1) (s ||| 2 ^ (f + d))) = x_lst k (f + 1) (s ||| 2 ^ f) ++ (List.range (12 - k - (f + 1))).flatMap (fun d => x_lst k (f + 1 + d + 1) (s ||| 2 ^ (f + 1 + d)))
  rw [show 12 - k - f = (12 - k - (f + 1)) + 1 by omega, List.range_succ_eq_map, List.flatMap_cons, List.flatMap_map]
  congr 1
  refine congrArg (fun F => List.flatMap F _) (funext fun d => ?_)
  show x_lst k (f + (d + 1) + 1) (s ||| 2 ^ (f + (d + 1))) = x_lst k (f + 1 + d + 1) (s ||| 2 ^ (f + 1 + d))
  rw [show f + (d + 1) = f + 1 + d by omega]
theorem x_lstZ {f k s : Nat} (h : 12 ≤ f + k) : x_lst (k + 1) f s = [] := by
  show (List.range (12 - k - f)).flatMap (fun d => x_lst k (f + d + 1) (s ||| 2 ^ (f + d))) = []
  rw [show 12 - k - f = 0 by omega]; rfl
theorem x_lstlen : ∀ (k t f s : Nat), f + t = 12 → (x_lst k f s).length = px_bn (12 - f) k
  | 0, t, f, s, h => by rw [px_bn0]; rfl
  | k + 1, 0, f, s, h => by rw [x_lstZ (by omega), show 12 - f = 0 by omega]; rfl
  | k + 1, t + 1, f, s, h => by
    by_cases q : f + k < 12
    · rw [x_lstS q, List.length_append, x_lstlen k t (f + 1) _ (by omega), x_lstlen (k + 1) t (f + 1) s (by omega), show 12 - f = (12 - (f + 1)) + 1 by omega, px_bnS]
    · rw [x_lstZ (by omega), px_bnZ _ _ (by omega)]; rfl
theorem x_lst4 {k f s S : Nat} (hf : f ≤ 12) (hs : s < 2 ^ f) (h : S ∈ x_lst k f s) : S < 4096 := by
  have h1 : ∀ i, s.testBit i = true → i < f := fun i hi => by
    refine Classical.byContradiction (fun q => ?_)
    rw [Nat.testBit_lt_two_pow (Nat.lt_of_lt_of_le hs (Nat.pow_le_pow_right (by decide) (by omega)))] at hi
    cases hi
  exact ((x_lstm k f s S hf h1).1 h).2.1
theorem x_lst0 {k S : Nat} : S ∈ x_lst k 0 0 ↔ S < 4096 ∧ x_n S = k := by
  have h := x_lstm k 0 0 S (by decide) (fun i hi => by rw [Nat.zero_testBit] at hi; cases hi)
  rw [h]
  have : x_cn 12 (fun i => decide (0 ≤ i) && S.testBit i) = x_n S := x_cnc 12 (fun i _ => by rw [decide_eq_true (Nat.zero_le i)]; rfl)
  rw [this]
  exact ⟨fun h => h.2, fun h => ⟨fun i hi => by omega, h⟩⟩
theorem px_2ne {st e : Nat} : ¬ st ||| 2 ^ e = 0 := fun h => by
  have : (st ||| 2 ^ e).testBit e = true := by rw [Nat.testBit_or, Nat.testBit_two_pow_self, Bool.or_true]
  rw [h, Nat.zero_testBit] at this
  cases this
/-- one more of the sizes -/
theorem px_tk {l : List Nat} {g g0 : Nat → Int32} {t u : Nat} {d : Int32} (hu : u < 4096) (hl : l[t]? = some u) (h : ∀ S, g S = if S ∈ l.take t then d else g0 S) : ∀ S, upd g (nI u).toNatClampNeg d S = if S ∈ l.take (t + 1) then d else g0 S := fun S => by
  have ht : t < l.length := by
    refine Classical.byContradiction (fun q => ?_)
    rw [List.getElem?_eq_none (by omega)] at hl; cases hl
  have e : l.take (t + 1) = l.take t ++ [u] := by
    rw [List.take_succ, hl]; rfl
  rw [nI_clamp (by omega), e]
  by_cases q : S = u
  · subst q
    rw [pk_us, if_pos (List.mem_append_right _ List.mem_cons_self)]
  · rw [pk_un q, h S]
    by_cases q2 : S ∈ l.take t
    · rw [if_pos q2, if_pos (List.mem_append_left _ q2)]
    · rw [if_neg q2, if_neg (fun w => (List.mem_append.mp w).elim q2 (fun w => q (by simpa using w)))]
/-- order and sizes, rounds 0 to k - 1 through -/
def px_L (k : Nat) : List Nat := (List.range k).flatMap (fun m => x_lst m 0 0)
theorem px_LS (k : Nat) : px_L (k + 1) = px_L k ++ x_lst k 0 0 := by
  unfold px_L
  rw [List.range_succ, List.flatMap_append]
  congr 1
  show (x_lst k 0 0 ++ []) = _
  rw [List.append_nil]
theorem px_Ll : ∀ k, (px_L k).length = px_sm k
  | 0 => rfl
  | k + 1 => by rw [px_LS, List.length_append, px_Ll k, x_lstlen k 12 0 0 rfl]; rfl
def px_sz (k : Nat) (g : Nat → Int32) : Prop := ∀ S, S < 4096 → (x_n S < k → g S = nI (x_n S)) ∧ (¬ x_n S < k → g S = 0)
theorem px_szS {k : Nat} {g g1 : Nat → Int32} (h : px_sz k g) (hz : px_zz k 0 (x_lst k 0 0) g g1) : px_sz (k + 1) g1 := fun S hS => by
  by_cases q : k = 0
  · rw [hz.2 (fun w => w.2 q)]
    refine ⟨fun w => ?_, fun w => (h S hS).2 (by omega)⟩
    rw [(h S hS).2 (by omega), show x_n S = 0 by omega]; rfl
  · rw [hz.1 rfl q S]
    by_cases e : x_n S = k
    · rw [if_pos (x_lst0.2 ⟨hS, e⟩)]
      exact ⟨fun _ => by rw [e], fun w => absurd e (by omega)⟩
    · rw [if_neg (fun w => e (x_lst0.1 w).2)]
      exact ⟨fun w => (h S hS).1 (by omega), fun w => (h S hS).2 (by omega)⟩
theorem px_tabs {f0 f g : Nat → Int32} (h : px_lo f0 f 0 (px_L 13)) (hz : px_sz 13 g) : r_T f g := by
  refine ⟨fun i hi => ?_, fun S hS => (hz S hS).1 (by have := x_nle12 S; omega)⟩
  have e : x_Ln 12 = px_L 13 := by
    show x_L.filter (fun S => decide (S < 2 ^ 12)) = x_L
    refine List.filter_eq_self.2 (fun S hS => ?_)
    exact decide_eq_true ((x_Lm S).1 hS)
  have hx := (x_orl (m := 12) (i := i) (by decide) hi).2
  rw [e] at hx
  have := h.2 i _ hx
  rw [Nat.zero_add] at this
  exact this
