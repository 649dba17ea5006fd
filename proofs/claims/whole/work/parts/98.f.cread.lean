/-! PURE, texts: the class's Statement: skip, keep, readRows, readEdges -/
abbrev s_P := Nat → Int32 → Int32 → Int32 → Int32 → Int32 → Int32 → Int32 → Int32 → Int32 → Int32 → Int32 → Int32 → Int32 → Int32 → (Nat → Int32) → (Nat → Int32) → Prop
/-- the class's tokens stand at the one behind i -/
def s_at (b : Nat → Int32) (L i : Nat) (P : Int32 → Int32 → Int32 → Int32 → Int32 → (Nat → Int32) → Prop) : Prop := ∀ v, (t_k b L i = 2 → v = t_v b L i) → P (nI L) (nI (t_e b L i)) (nI (t_j b L i)) (t_ck (t_k b L i)) v b
/-- numbers and commas from i on -/
def t_it (b : Nat → Int32) (L : Nat) (cm : Bool) : Nat → Nat → List (Option Int32)
  | 0, _ => []
  | u + 1, i => if t_is b L 2 i = true then some (t_v b L i) :: t_it b L cm u (t_e b L i) else if (cm && t_is b L 44 i) = true then none :: t_it b L cm u (t_e b L i) else []
def t_vl : List (Option Int32) → List Int32
  | [] => []
  | some x :: l => x :: t_vl l
  | none :: l => t_vl l
/-- rows: what stands in the last one, how many are done, whether they are even -/
def t_fo (hd : Int32) : List (Option Int32) → Nat → Nat → Bool → Nat × Nat × Bool
  | [], r, n, e => (r, n, e)
  | some _ :: l, r, n, e => t_fo hd l (r + 1) n e
  | none :: l, r, n, e => t_fo hd l 0 (n + 1) (e && decide (nI r = hd))
def t_rows (hd : Int32) (x : Nat × Nat × Bool) : Nat × Bool := if 0 < x.2.1 ∨ 0 < x.1 then (x.2.1 + 1, x.2.2 && decide (nI x.1 = hd)) else (x.2.1, x.2.2)
theorem t_ckk {k : Int32} : (t_ck k = 3 ↔ k = 2) ∧ (t_ck k = 44 ↔ k = 44) ∧ (t_ck k = 61 ↔ k = 61) ∧ (t_ck k = 59 ↔ k = 59) ∧ (t_ck k = 123 ↔ k = 123) ∧ (t_ck k = 125 ↔ k = 125) ∧ (t_ck k = 2 ↔ k = 1) ∧ (t_ck k = 0 ↔ k = 0) := by
  unfold t_ck
  by_cases h1 : k = 1
  · subst h1; decide
  · by_cases h2 : k = 2
    · subst h2; decide
    · by_cases h3 : k = 3
      · subst h3; decide
      · rw [if_neg h1, if_neg h2, if_neg h3]
        refine ⟨⟨fun h => absurd h h3, fun h => absurd h h2⟩, Iff.rfl, Iff.rfl, Iff.rfl, Iff.rfl, Iff.rfl, ⟨fun h => absurd h h2, fun h => absurd h h1⟩, Iff.rfl⟩
section CRD
variable {N L : Nat} {b : Nat → Int32} {sv : Nat} {sg sf s2 sd sh sx : Int32} {i : Nat} {tv : Int32}
theorem c_stepS {P : Int32 → Int32 → Int32 → Int32 → Int32 → (Nat → Int32) → Prop} {x y z : Int32} (hL : L ≤ N) (hN : N < 2 ^ 31) (hi : i ≤ L) (h : s_at b L (t_e b L i) P) : w138_wp N P (nI L) (nI (t_e b L i)) x y z b := c_step rfl hL hN (t_el hi).2.1 h
theorem c_skp {post : Int32 → s_P} {c : Int32} {gn : Nat → Int32} {sm sr se : Int32} {cc : Int32} (hL : L ≤ N) (hN : N < 2 ^ 31) (hi : i ≤ L) (hc : t_ck (t_k b L i) = cc ↔ t_k b L i = c) (h1 : t_is b L c i = true → s_at b L (t_e b L i) (fun a1 a2 a3 a4 a5 a6 => post 1 sv sg sf s2 sd sh sx sm sr se a1 a2 a3 a4 a5 gn a6)) (h0 : t_is b L c i = false → post 0 sv sg sf s2 sd sh sx sm sr se (nI L) (nI (t_e b L i)) (nI (t_j b L i)) (t_ck (t_k b L i)) tv gn b) : w147_wp N post cc sv sg sf s2 sd sh sx sm sr se (nI L) (nI (t_e b L i)) (nI (t_j b L i)) (t_ck (t_k b L i)) tv gn b := by
  refine ⟨fun w => c_stepS hL hN hi (fun v hv => ⟨rfl, h1 (decide_eq_true (hc.1 w)) v hv⟩), fun w => ⟨rfl, h0 (decide_eq_false (fun q => w (hc.2 q)))⟩⟩
theorem c_keep {post : s_P} {gn : Nat → Int32} {sr se : Int32} {P : List Int32} {tl tb ts tk : Int32} (hP : P.length < 2 ^ 31 - 1) (hg : ∀ j x, j < 160 → P[j]? = some x → gn j = x) (h : ∀ gn', (∀ j x, j < 160 → (P ++ [tv])[j]? = some x → gn' j = x) → post sv sg sf s2 sd sh sx (nI (P ++ [tv]).length) sr se tl tb ts tk tv gn' b) : w166_wp N post sv sg sf s2 sd sh sx (nI P.length) sr se tl tb ts tk tv gn b := by
  have el : (P ++ [tv]).length = P.length + 1 := by simp
  rw [el] at h
  refine ⟨fun w z e => ?_, fun w => ⟨?_, fun z e => ?_⟩⟩
  · rw [e, nI_1]
    refine h gn (fun j x hj hx => ?_)
    have : 160 ≤ P.length := by
      by_cases q : 160 ≤ P.length
      · exact q
      · exact absurd w (nI_ge (a := P.length) (b := 160) (by omega) (by omega))
    rw [List.getElem?_append_left (by omega)] at hx
    exact hg j x hj hx
  · have : P.length < 160 := by
      by_cases q : P.length < 160
      · exact q
      · exact absurd (nI_le (a := 160) (b := P.length) (by omega) (by omega)) w
    exact b_in (by omega) (by omega)
  · rw [e, nI_1, nI_clamp (by omega)]
    refine h _ (fun j x hj hx => ?_)
    by_cases q : j = P.length
    · rw [q] at hx
      rw [List.getElem?_append_right (Nat.le_refl _), Nat.sub_self] at hx
      rw [q, pk_us]
      simpa using hx
    · rw [pk_un q]
      have hlt : j < P.length := by
        have := List.getElem?_eq_some_iff.1 hx
        obtain ⟨h1, _⟩ := this
        rw [el] at h1
        omega
      rw [List.getElem?_append_left hlt] at hx
      exact hg j x hj hx
theorem c_readRows {post : s_P} {gn : Nat → Int32} {cm : Bool} (hL : L ≤ N) (hN : N < 2 ^ 31) (hL2 : L ≤ 16384) (hi : i ≤ L) (hv : t_k b L i = 2 → tv = t_v b L i) (h : ∀ gn', (∀ j x, j < 160 → (t_vl (t_it b L cm L i))[j]? = some x → gn' j = x) → s_at b L (t_lp b L cm L i) (fun a1 a2 a3 a4 a5 a6 => post sv sg sf s2 sd sh sx (nI (t_vl (t_it b L cm L i)).length) (nI (t_rows sh (t_fo sh (t_it b L cm L i) 0 0 true)).1) (if (t_rows sh (t_fo sh (t_it b L cm L i) 0 0 true)).2 = true then 1 else 0) a1 a2 a3 a4 a5 gn' a6)) : w167_wp N post (if cm = true then 1 else 0) sv sg sf s2 sd sh sx 0 0 1 (nI L) (nI (t_e b L i)) (nI (t_j b L i)) (t_ck (t_k b L i)) tv gn b := by
  have fin : ∀ (gn' : Nat → Int32) (m r n k : Nat) (ev : Bool) (i : Nat) (tv : Int32) (x1 : Int32), r < 2 ^ 31 → n < 2 ^ 31 → k < 2 ^ 31 → post sv sg sf s2 sd sh sx (nI m) (nI (t_rows sh (r, n, ev)).1) (if (t_rows sh (r, n, ev)).2 = true then 1 else 0) (nI L) (nI (t_e b L i)) (nI (t_j b L i)) (t_ck (t_k b L i)) tv gn' b → w167_L97 N post x1 (nI r) (nI k) sv sg sf s2 sd sh sx (nI m) (nI n) (if ev = true then 1 else 0) (nI L) (nI (t_e b L i)) (nI (t_j b L i)) (t_ck (t_k b L i)) tv gn' b := by
    intro gn' m r n k ev i tv x1 hr hn hk h
    unfold t_rows at h
    have l108 : (0 < n ∨ 0 < r) → w167_L108 N post x1 (nI r) (nI k) sv sg sf s2 sd sh sx (nI m) (nI n) (if ev = true then 1 else 0) (nI L) (nI (t_e b L i)) (nI (t_j b L i)) (t_ck (t_k b L i)) tv gn' b := by
      intro hor
      rw [if_pos (show 0 < ((r, n, ev) : Nat × Nat × Bool).2.1 ∨ 0 < ((r, n, ev) : Nat × Nat × Bool).1 from hor)] at h
      have key : ∀ y : Int32, y = (if (ev && decide (nI r = sh)) = true then 1 else 0) → ((narrow .boolean (.int y) = .int y ∧ fits .boolean (.int y) = true)) → w167_L129 N post x1 (nI r) (nI k) y sv sg sf s2 sd sh sx (nI m) (nI n) (if ev = true then 1 else 0) (nI L) (nI (t_e b L i)) (nI (t_j b L i)) (t_ck (t_k b L i)) tv gn' b := by
        intro y ey hy
        refine ⟨hy, fun z e => ?_⟩
        rw [e, nI_1, ey]
        exact h
      refine ⟨fun q => key 0 ?_ ⟨rfl, rfl⟩, fun q => ⟨fun q2 => key 0 ?_ ⟨rfl, rfl⟩, fun q2 => key 1 ?_ ⟨rfl, rfl⟩⟩⟩
      · have : ev = false := by
          cases ev
          · rfl
          · exact absurd q (by decide)
        rw [this]; rfl
      · rw [decide_eq_false q2, Bool.and_false]; rfl
      · have : ev = true := by
          cases ev
          · exact absurd rfl q
          · rfl
        rw [decide_eq_true q2, this]; rfl
    refine ⟨fun q => l108 (Or.inl ?_), fun q => ⟨fun q2 => ?_, fun q2 => l108 (Or.inr ?_)⟩⟩
    · by_cases w : 0 < n
      · exact w
      · rw [show n = 0 by omega] at q; exact absurd q (by decide)
    · have h1 : n = 0 := by
        by_cases w : n = 0
        · exact w
        · exact absurd (nI_lt (a := 0) (b := n) (by omega) hn) q
      have h2 : r = 0 := by
        by_cases w : r = 0
        · exact w
        · exact absurd q2 (nI_ge (a := 0) (b := r) (by omega) hr)
      rw [if_neg (show ¬ (0 < ((r, n, ev) : Nat × Nat × Bool).2.1 ∨ 0 < ((r, n, ev) : Nat × Nat × Bool).1) by show ¬ (0 < n ∨ 0 < r); omega)] at h
      exact h
    · by_cases w : 0 < r
      · exact w
      · rw [show r = 0 by omega] at q2; exact absurd (by decide) q2
  have main : ∀ (u i k r n : Nat) (ev : Bool) (P : List Int32) (gn : Nat → Int32) (tv : Int32), i ≤ L → L - i ≤ u → k ≤ i → r ≤ i → n ≤ i → P.length ≤ i → (t_k b L i = 2 → tv = t_v b L i) → (∀ j x, j < 160 → P[j]? = some x → gn j = x) →
      (∀ gn', (∀ j x, j < 160 → (P ++ t_vl (t_it b L cm u i))[j]? = some x → gn' j = x) → s_at b L (t_lp b L cm u i) (fun a1 a2 a3 a4 a5 a6 => post sv sg sf s2 sd sh sx (nI (P ++ t_vl (t_it b L cm u i)).length) (nI (t_rows sh (t_fo sh (t_it b L cm u i) r n ev)).1) (if (t_rows sh (t_fo sh (t_it b L cm u i) r n ev)).2 = true then 1 else 0) a1 a2 a3 a4 a5 gn' a6)) →
      w167_L4 N post (u + 1) (if cm = true then 1 else 0) (nI r) (nI k) sv sg sf s2 sd sh sx (nI P.length) (nI n) (if ev = true then 1 else 0) (nI L) (nI (t_e b L i)) (nI (t_j b L i)) (t_ck (t_k b L i)) tv gn b := by
    intro u
    induction u with
    | zero =>
      intro i k r n ev P gn tv hi hu hk hr hn hP hv hg h
      have hk0 : t_k b L i = 0 := if_pos (by have := t_jl (b := b) hi; omega)
      have stop : w167_L97 N post (if cm = true then 1 else 0) (nI r) (nI k) sv sg sf s2 sd sh sx (nI P.length) (nI n) (if ev = true then 1 else 0) (nI L) (nI (t_e b L i)) (nI (t_j b L i)) (t_ck (t_k b L i)) tv gn b := by
        refine fin gn P.length r n k ev i tv _ (by omega) (by omega) (by omega) ?_
        have h := h gn (fun j x hj hx => hg j x hj (by rw [show t_vl (t_it b L cm 0 i) = [] from rfl, List.append_nil] at hx; exact hx)) tv hv
        rw [show t_vl (t_it b L cm 0 i) = [] from rfl, List.append_nil] at h
        exact h
      have c0 : t_ck (t_k b L i) = 0 := by rw [hk0]; decide
      refine ⟨fun _ => stop, fun _ => ⟨fun _ => ⟨fun _ => stop, fun _ => ⟨fun _ => stop, fun q => ?_⟩⟩, fun q => ?_⟩⟩
      · rw [c0] at q; exact absurd q (by decide)
      · rw [c0] at q; exact absurd q (by decide)
    | succ u ih =>
      intro i k r n ev P gn tv hi hu hk hr hn hP hv hg h
      have ckk := t_ckk (k := t_k b L i)
      have stop : (t_is b L 2 i || (cm && t_is b L 44 i)) = false → w167_L97 N post (if cm = true then 1 else 0) (nI r) (nI k) sv sg sf s2 sd sh sx (nI P.length) (nI n) (if ev = true then 1 else 0) (nI L) (nI (t_e b L i)) (nI (t_j b L i)) (t_ck (t_k b L i)) tv gn b := by
        intro hno
        have n1 : t_is b L 2 i = false := by
          cases q : t_is b L 2 i
          · rfl
          · rw [q] at hno; exact absurd hno (by simp)
        have n2 : (cm && t_is b L 44 i) = false := by
          rw [n1, Bool.false_or] at hno; exact hno
        have e1 : t_it b L cm (u + 1) i = [] := by
          show (if _ then _ else (if _ then _ else _)) = _
          rw [if_neg (by rw [n1]; decide), if_neg (by rw [n2]; decide)]
        have e2 : t_lp b L cm (u + 1) i = i := by
          show (if _ then _ else _) = _
          rw [if_neg (by rw [hno]; decide)]
        rw [e1, e2] at h
        refine fin gn P.length r n k ev i tv _ (by omega) (by omega) (by omega) ?_
        have h := h gn (fun j x hj hx => hg j x hj (by rw [show t_vl [] = [] from rfl, List.append_nil] at hx; exact hx)) tv hv
        rw [show t_vl [] = [] from rfl, List.append_nil] at h
        exact h
      refine ⟨fun q => stop ?_, fun _ => ⟨fun q3 => ⟨fun q1 => stop ?_, fun q1 => ⟨fun q4 => stop ?_, fun q4 => ?_⟩⟩, fun q3 => ?_⟩⟩
      · have hk4 : 16384 ≤ k := (nI_leI (a := 16384) (b := k) (by omega) (by omega)).1 q
        have hk0 : t_k b L i = 0 := if_pos (by have := t_jl (b := b) hi; omega)
        unfold t_is
        rw [hk0]
        cases cm <;> decide
      · rw [ckk.1] at q3
        have : cm = false := by
          cases cm
          · rfl
          · exact absurd q1 (by decide)
        unfold t_is
        rw [decide_eq_false q3, this]; rfl
      · rw [ckk.1] at q3
        rw [ckk.2.1] at q4
        unfold t_is
        rw [decide_eq_false q3, decide_eq_false q4, Bool.and_false]; rfl
      · rw [ckk.1] at q3
        rw [ckk.2.1] at q4
        have n1 : t_is b L 2 i = false := decide_eq_false q3
        have n4 : t_is b L 44 i = true := decide_eq_true q4
        have hcm : cm = true := by
          cases cm
          · exact absurd rfl q1
          · rfl
        have adv := t_isj hi (by decide) n4
        have e1 : t_it b L cm (u + 1) i = none :: t_it b L cm u (t_e b L i) := by
          show (if _ then _ else (if _ then _ else _)) = _
          rw [if_neg (by rw [n1]; decide), if_pos (by rw [n4, hcm]; rfl)]
        have e2 : t_lp b L cm (u + 1) i = t_lp b L cm u (t_e b L i) := by
          show (if _ then _ else _) = _
          rw [if_pos (by rw [n4, hcm, Bool.or_comm]; rfl)]
        rw [e1, e2] at h
        have l69 : ∀ y : Int32, y = (if (ev && decide (nI r = sh)) = true then 1 else 0) → ((narrow .boolean (.int y) = .int y ∧ fits .boolean (.int y) = true)) → w167_L69 (w167_L4 N post (u + 1)) N post (if cm = true then 1 else 0) (nI r) (nI k) y sv sg sf s2 sd sh sx (nI P.length) (nI n) (if ev = true then 1 else 0) (nI L) (nI (t_e b L i)) (nI (t_j b L i)) (t_ck (t_k b L i)) tv gn b := by
          intro y ey hy
          refine ⟨hy, fun z e => c_stepS hL hN hi (fun v hv z8 e8 => ?_)⟩
          rw [e, nI_1, e8, nI_1, ey]
          exact ih (t_e b L i) (k + 1) 0 (n + 1) (ev && decide (nI r = sh)) P gn v adv.2 (by omega) (by omega) (by omega) (by omega) (by omega) hv hg h
        refine ⟨fun q => l69 0 ?_ ⟨rfl, rfl⟩, fun q => ⟨fun q2 => l69 0 ?_ ⟨rfl, rfl⟩, fun q2 => l69 1 ?_ ⟨rfl, rfl⟩⟩⟩
        · have : ev = false := by
            cases ev
            · rfl
            · exact absurd q (by decide)
          rw [this]; rfl
        · rw [decide_eq_false q2, Bool.and_false]; rfl
        · have : ev = true := by
            cases ev
            · exact absurd rfl q
            · rfl
          rw [decide_eq_true q2, this]; rfl
      · rw [ckk.1] at q3
        have n1 : t_is b L 2 i = true := decide_eq_true q3
        have adv := t_isj hi (by decide) n1
        have e1 : t_it b L cm (u + 1) i = some (t_v b L i) :: t_it b L cm u (t_e b L i) := by
          show (if _ then _ else _) = _
          rw [if_pos n1]
        have e2 : t_lp b L cm (u + 1) i = t_lp b L cm u (t_e b L i) := by
          show (if _ then _ else _) = _
          rw [if_pos (by rw [n1]; rfl)]
        rw [e1, e2] at h
        have ev' : tv = t_v b L i := hv q3
        refine c_keep (by omega) hg (fun gn' hg' z27 e27 => c_stepS hL hN hi (fun v hv z8 e8 => ?_))
        rw [e27, nI_1, e8, nI_1]
        refine ih (t_e b L i) (k + 1) (r + 1) n ev (P ++ [tv]) gn' v adv.2 (by omega) (by omega) (by omega) (by omega) (by simp; omega) hv hg' ?_
        rw [ev', List.append_assoc]
        exact h
  exact ⟨L + 1, main L i 0 0 0 true [] gn tv hi (by omega) (by omega) (by omega) (by omega) (Nat.zero_le _) hv (fun j x _ hx => by simp at hx) (fun gn' hg' => by
    rw [List.nil_append] at hg' ⊢
    exact h gn' hg')⟩
end CRD
