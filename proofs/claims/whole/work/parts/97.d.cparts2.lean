/-! PURE, the class: Matroid.takeParts -/
def c_TP (pt1 : Nat → Option Nat) (c1 : Nat → Int32) (hd : Nat → Int32) (fl : Int32) (k : Nat → Nat) (A n0 : Nat) (pp0 : Nat → px_PR) (pt0 : Nat → Option Nat) (c0 : Nat → Int32) (j np : Nat) (pp : Nat → px_PR) (pt : Nat → Option Nat) (c : Nat → Int32) : Prop := (n0 ≤ np) ∧ (np ≤ n0 + j) ∧ (∀ x, x < n0 → pp x = pp0 x) ∧ (∀ i, i < j → c (A + i) = c1 (k i)) ∧ (∀ x, (x < A ∨ A + j ≤ x) → c x = c0 x) ∧ (∀ x, (x < A ∨ A + j ≤ x) → pt x = pt0 x) ∧ (∀ i, i < j → ∃ a b, pt1 (k i) = some a ∧ a < n0 ∧ pt (A + i) = some b ∧ n0 ≤ b ∧ b < np ∧ pp b = ((pp0 a).1, (pp0 a).2.1 ||| hd a, if (pp0 a).2.2 = fl then 0 else 1)) ∧ (∀ i i', i < j → i' < j → (pt (A + i) = pt (A + i') ↔ pt1 (k i) = pt1 (k i'))) ∧ (∀ b, n0 ≤ b → b < np → ∃ i, i < j ∧ pt (A + i) = some b)
section CTPp
variable {pt1 : Nat → Option Nat} {c1 : Nat → Int32} {hd : Nat → Int32} {fl : Int32} {k : Nat → Nat} {A n0 : Nat} {pp0 : Nat → px_PR} {pt0 : Nat → Option Nat} {c0 : Nat → Int32} {j np : Nat} {pp : Nat → px_PR} {pt : Nat → Option Nat} {c : Nat → Int32}
theorem c_TP.lo (h : c_TP pt1 c1 hd fl k A n0 pp0 pt0 c0 j np pp pt c) : n0 ≤ np := h.1
theorem c_TP.hi (h : c_TP pt1 c1 hd fl k A n0 pp0 pt0 c0 j np pp pt c) : np ≤ n0 + j := h.2.1
theorem c_TP.low (h : c_TP pt1 c1 hd fl k A n0 pp0 pt0 c0 j np pp pt c) : ∀ x, x < n0 → pp x = pp0 x := h.2.2.1
theorem c_TP.col (h : c_TP pt1 c1 hd fl k A n0 pp0 pt0 c0 j np pp pt c) : ∀ i, i < j → c (A + i) = c1 (k i) := h.2.2.2.1
theorem c_TP.cout (h : c_TP pt1 c1 hd fl k A n0 pp0 pt0 c0 j np pp pt c) : ∀ x, (x < A ∨ A + j ≤ x) → c x = c0 x := h.2.2.2.2.1
theorem c_TP.pout (h : c_TP pt1 c1 hd fl k A n0 pp0 pt0 c0 j np pp pt c) : ∀ x, (x < A ∨ A + j ≤ x) → pt x = pt0 x := h.2.2.2.2.2.1
theorem c_TP.prt (h : c_TP pt1 c1 hd fl k A n0 pp0 pt0 c0 j np pp pt c) : ∀ i, i < j → ∃ a b, pt1 (k i) = some a ∧ a < n0 ∧ pt (A + i) = some b ∧ n0 ≤ b ∧ b < np ∧ pp b = ((pp0 a).1, (pp0 a).2.1 ||| hd a, if (pp0 a).2.2 = fl then 0 else 1) := h.2.2.2.2.2.2.1
theorem c_TP.same (h : c_TP pt1 c1 hd fl k A n0 pp0 pt0 c0 j np pp pt c) : ∀ i i', i < j → i' < j → (pt (A + i) = pt (A + i') ↔ pt1 (k i) = pt1 (k i')) := h.2.2.2.2.2.2.2.1
theorem c_TP.onto (h : c_TP pt1 c1 hd fl k A n0 pp0 pt0 c0 j np pp pt c) : ∀ b, n0 ≤ b → b < np → ∃ i, i < j ∧ pt (A + i) = some b := h.2.2.2.2.2.2.2.2
end CTPp
def c_TO (pt1 : Nat → Option Nat) (k : Nat → Nat) (A j : Nat) (pt : Nat → Option Nat) (o f : Option Nat) : Prop := (j = 0 → o = none ∧ f = none) ∧ (0 < j → o = pt1 (k (j - 1)) ∧ f = pt (A + (j - 1)))
section CTQ
variable {pt1 : Nat → Option Nat} {c1 hd : Nat → Int32} {fl : Int32} {k : Nat → Nat} {A n0 : Nat} {pp0 : Nat → px_PR} {pt0 : Nat → Option Nat} {c0 : Nat → Int32} {j np : Nat} {pp : Nat → px_PR} {pt : Nat → Option Nat} {c : Nat → Int32} {o f : Option Nat}
theorem c_TP0 : c_TP pt1 c1 hd fl k A n0 pp0 pt0 c0 0 n0 pp0 pt0 c0 := ⟨Nat.le_refl _, Nat.le_refl _, fun _ _ => rfl, fun i h => absurd h (Nat.not_lt_zero i), fun _ _ => rfl, fun _ _ => rfl, fun i h => absurd h (Nat.not_lt_zero i), fun i _ h => absurd h (Nat.not_lt_zero i), fun b h1 h2 => absurd h2 (Nat.not_lt.2 h1)⟩
theorem c_TPold (h : c_TP pt1 c1 hd fl k A n0 pp0 pt0 c0 j np pp pt c) {a : Nat} (hj : 0 < j) (ha : pt1 (k j) = some a) (ho : pt1 (k (j - 1)) = some a) : c_TP pt1 c1 hd fl k A n0 pp0 pt0 c0 (j + 1) np pp (va_up pt (A + j) (pt (A + (j - 1)))) (upd c (A + j) (c1 (k j))) := by
  have e1 : ∀ i, i < j → va_up pt (A + j) (pt (A + (j - 1))) (A + i) = pt (A + i) := fun i hi => va_up_ne _ _ (by omega)
  have e2 : va_up pt (A + j) (pt (A + (j - 1))) (A + j) = pt (A + (j - 1)) := va_up_self _ _ _
  refine ⟨h.lo, Nat.le_succ_of_le h.hi, h.low, fun i hi => ?_, fun x hx => ?_, fun x hx => ?_, fun i hi => ?_, fun i i' hi hi' => ?_, fun b h1 h2 => ?_⟩
  · by_cases w : i = j
    · rw [w, pk_us]
    · rw [pk_un (by omega)]; exact h.col i (by omega)
  · rw [pk_un (by omega)]; exact h.cout x (by omega)
  · rw [va_up_ne _ _ (by omega)]; exact h.pout x (by omega)
  · by_cases w : i = j
    · rw [w, e2]
      obtain ⟨a', b, h1, h2⟩ := h.prt (j - 1) (by omega)
      refine ⟨a', b, ?_, h2⟩
      rw [ha, ← h1, ho]
    · rw [e1 i (by omega)]; exact h.prt i (by omega)
  · have r1 : ∀ i, i < j + 1 → ∃ i0, i0 < j ∧ va_up pt (A + j) (pt (A + (j - 1))) (A + i) = pt (A + i0) ∧ pt1 (k i) = pt1 (k i0) := by
      intro i hi
      by_cases w : i = j
      · exact ⟨j - 1, by omega, by rw [w, e2], by rw [w, ha, ho]⟩
      · exact ⟨i, by omega, e1 i (by omega), rfl⟩
    obtain ⟨i0, a1, a2, a3⟩ := r1 i hi
    obtain ⟨i1, b1, b2, b3⟩ := r1 i' hi'
    rw [a2, a3, b2, b3]
    exact h.same i0 i1 a1 b1
  · obtain ⟨i, hi, ei⟩ := h.onto b h1 h2
    exact ⟨i, by omega, by rw [e1 i hi]; exact ei⟩
theorem c_TPnew (h : c_TP pt1 c1 hd fl k A n0 pp0 pt0 c0 j np pp pt c) {a : Nat} (ha : pt1 (k j) = some a) (han : a < n0) (hno : ∀ i, i < j → pt1 (k i) ≠ some a) : c_TP pt1 c1 hd fl k A n0 pp0 pt0 c0 (j + 1) (np + 1) (va_up pp np ((pp0 a).1, (pp0 a).2.1 ||| hd a, if (pp0 a).2.2 = fl then 0 else 1)) (va_up pt (A + j) (some np)) (upd c (A + j) (c1 (k j))) := by
  have e1 : ∀ i, i < j → va_up pt (A + j) (some np) (A + i) = pt (A + i) := fun i hi => va_up_ne _ _ (by omega)
  have e2 : va_up pt (A + j) (some np) (A + j) = some np := va_up_self _ _ _
  have hlo := h.lo
  have hhi := h.hi
  refine ⟨by omega, by omega, fun x hx => ?_, fun i hi => ?_, fun x hx => ?_, fun x hx => ?_, fun i hi => ?_, fun i i' hi hi' => ?_, fun b h1 h2 => ?_⟩
  · rw [va_up_ne _ _ (by omega)]; exact h.low x hx
  · by_cases w : i = j
    · rw [w, pk_us]
    · rw [pk_un (by omega)]; exact h.col i (by omega)
  · rw [pk_un (by omega)]; exact h.cout x (by omega)
  · rw [va_up_ne _ _ (by omega)]; exact h.pout x (by omega)
  · by_cases w : i = j
    · rw [w, e2]
      exact ⟨a, np, ha, han, rfl, hlo, Nat.lt_succ_self _, va_up_self _ _ _⟩
    · rw [e1 i (by omega)]
      obtain ⟨a', b, h1, h2, h3, h4, h5, h6⟩ := h.prt i (by omega)
      exact ⟨a', b, h1, h2, h3, h4, by omega, by rw [va_up_ne _ _ (by omega)]; exact h6⟩
  · have low : ∀ i, i < j → pt (A + i) ≠ some np := by
      intro i hi e
      obtain ⟨a', b, h1, h2, h3, h4, h5, h6⟩ := h.prt i hi
      rw [h3] at e
      cases e
      exact absurd h5 (Nat.lt_irrefl _)
    by_cases w : i = j
    · by_cases w' : i' = j
      · rw [w, w']
        exact ⟨fun _ => rfl, fun _ => rfl⟩
      · rw [w, e2, e1 i' (by omega), ha]
        exact ⟨fun e => absurd e.symm (low i' (by omega)), fun e => absurd e.symm (hno i' (by omega))⟩
    · by_cases w' : i' = j
      · rw [w', e2, e1 i (by omega), ha]
        exact ⟨fun e => absurd e (low i (by omega)), fun e => absurd e (hno i (by omega))⟩
      · rw [e1 i (by omega), e1 i' (by omega)]
        exact h.same i i' (by omega) (by omega)
  · by_cases w : b = np
    · exact ⟨j, Nat.lt_succ_self _, by rw [w, e2]⟩
    · obtain ⟨i, hi, ei⟩ := h.onto b h1 (by omega)
      exact ⟨i, by omega, by rw [e1 i hi]; exact ei⟩
end CTQ
theorem c_ptpt {mm : Nat → px_MR} {a0 a1 to e : Nat} {M : px_MR} {c : Nat → Int32} {pt : Nat → Option Nat} {y : Option Nat} (hne : a0 ≠ a1) :
    va_up (va_up mm a0 (c_pt M c pt)) a0 (c_pt ((va_up mm a0 (c_pt M c pt)) a0) (upd (((va_up mm a0 (c_pt M c pt)) a0).2.2.2.1 2) to (((va_up mm a0 (c_pt M c pt)) a1).2.2.2.1 2 e)) (va_up ((va_up mm a0 (c_pt M c pt)) a0).2.2.2.2.2 to y)) = va_up mm a0 (c_pt M (upd c to ((mm a1).2.2.2.1 2 e)) (va_up pt to y)) := by
  rw [b_upup, va_up_self, va_up_ne _ _ (fun k => hne k.symm)]
  unfold c_pt
  show va_up mm a0 (M.1, M.2.1, M.2.2.1, va_up (va_up M.2.2.2.1 2 c) 2 (upd ((va_up M.2.2.2.1 2 c) 2) to ((mm a1).2.2.2.1 2 e)), M.2.2.2.2.1, va_up pt to y) = _
  rw [b_upup, va_up_self]
section CTR
variable {a0 cm ns a1 mc ms : Nat} {sa : Nat → Nat} {ss : Nat → px_SR} {post : Nat → Nat → Int32 → (Nat → Int32) → (Nat → Int32) → (Nat → px_MR) → Nat → (Nat → Nat) → (Nat → px_PR) → Prop} {x2 : Int32} {q_o l_o : Nat} {o_r : Int32} {g_o g_t : Nat → Int32} {mm : Nat → px_MR} {n0 : Nat} {pa0 : Nat → Nat} {pp0 : Nat → px_PR} {n m A S U : Nat} {k : Nat → Nat} {fl : Bool} {cc : Nat → Nat} {tb : Nat → Bool}
def x_hd (pt1 : Nat → Option Nat) (cc : Nat → Nat) (S U : Nat) (tb : Nat → Bool) (n a : Nat) : Int32 := nI (x_ho 0 pt1 cc (fun e => S.testBit e && (U.testBit e ^^ tb a)) a n)
theorem c_takeParts (ha : a0 < cm) (ha1 : a1 < cm) (hne : a0 ≠ a1) (hn : n ≤ 12) (hsz : (mm a1).2.1 13 = nI n) (hpok : px_pok cm n0 mm) (hc : ∀ e, e < n → (mm a1).2.2.2.1 2 e = nI (cc e) ∧ cc e < 12) (ht : ∀ a, a < n0 → (pp0 a).2.2 = if tb a = true then 1 else 0) (hS : S < 2 ^ 31) (hU : U < 2 ^ 31) (hA : A + m ≤ 12)
    (hk1 : ∀ i, i < m → k i < n) (hk2 : ∀ i i', i < i' → i' < m → k i < k i') (hk3 : ∀ e, e < n → (S.testBit e = false ↔ ∃ i, i < m ∧ k i = e)) (hp : ∀ e, e < n → ∃ a, (mm a1).2.2.2.2.2 e = some a) (hrun : ∀ i i' i'', i < i' → i' < i'' → i'' < n → (mm a1).2.2.2.2.2 i = (mm a1).2.2.2.2.2 i'' → (mm a1).2.2.2.2.2 i' = (mm a1).2.2.2.2.2 i'') (hmc : m ≤ mc) (hms : 3 * m ≤ ms)
    (h : ∀ np pa pp pt c, (∀ x, x < n0 → pa x = pa0 x) → c_TP (mm a1).2.2.2.2.2 ((mm a1).2.2.2.1 2) (x_hd (mm a1).2.2.2.2.2 cc S U tb n) (if fl = true then 1 else 0) k A n0 pp0 (mm a0).2.2.2.2.2 ((mm a0).2.2.2.1 2) m np pp pt c → post q_o l_o o_r g_o g_t (va_up mm a0 (c_pt (mm a0) c pt)) np pa pp) :
    w259_wp a0 cm ns sa ss a1 mc ms post (nI A) (nI S) (nI U) (if fl = true then 1 else 0) q_o l_o o_r g_o g_t mm n0 pa0 pp0 := by
  unfold w259_wp
  generalize hF : (if fl = true then (1 : Int32) else 0) = F at *
  have main : ∀ (u e j np : Nat) (pa : Nat → Nat) (pp : Nat → px_PR) (pt : Nat → Option Nat) (c : Nat → Int32) (o f : Option Nat), e + u = n → (∀ x, x < n0 → pa x = pa0 x) → j ≤ m → (∀ i, i < j → k i < e) → (∀ i, j ≤ i → i < m → e ≤ k i) →
      c_TP (mm a1).2.2.2.2.2 ((mm a1).2.2.2.1 2) (x_hd (mm a1).2.2.2.2.2 cc S U tb n) F k A n0 pp0 (mm a0).2.2.2.2.2 ((mm a0).2.2.2.1 2) j np pp pt c → c_TO (mm a1).2.2.2.2.2 k A j pt o f →
      w259_L12 a0 cm ns sa ss a1 mc ms post (u + 1) (nI A) (nI S) (nI U) F o f (nI (A + j)) (nI e) q_o l_o o_r g_o g_t (va_up mm a0 (c_pt (mm a0) c pt)) np pa pp (np - n0) (3 * (np - n0)) := by
    intro u
    induction u with
    | zero =>
      intro e j np pa pp pt c o f he hpa hjm hj1 hj2 hT hO
      have em : (va_up mm a0 (c_pt (mm a0) c pt)) a1 = mm a1 := va_up_ne _ _ (fun k => hne k.symm)
      have hjm' : j = m := by
        by_cases w : j < m
        · have := hj2 j (Nat.le_refl _) w
          have := hk1 j w
          omega
        · omega
      have hpost := h np pa pp pt c hpa (hjm' ▸ hT)
      have fin : a1 < cm ∧ (((((va_up mm a0 (c_pt (mm a0) c pt)) a1).2.1 13) ≤ nI e → post q_o l_o o_r g_o g_t (va_up mm a0 (c_pt (mm a0) c pt)) np pa pp) ∧ (∀ P : Prop, ¬ (((va_up mm a0 (c_pt (mm a0) c pt)) a1).2.1 13) ≤ nI e → P)) := by
        refine ⟨ha1, fun _ => hpost, fun P w => ?_⟩
        rw [em, hsz] at w
        exact absurd (nI_le (by omega) (by omega)) w
      cases o with
      | none =>
        cases f with
        | none => exact ⟨fun _ => ⟨fun _ => ⟨fin.1, fin.2.1, fun w => fin.2.2 _ w⟩, fun a w => by simp at w⟩, fun a w => by simp at w⟩
        | some b => exact ⟨fun _ => ⟨fun w => by simp at w, fun a w => ⟨fin.1, fin.2.1, fun w => fin.2.2 _ w⟩⟩, fun a w => by simp at w⟩
      | some d =>
        cases f with
        | none => exact ⟨fun w => by simp at w, fun a w => ⟨fun _ => ⟨fin.1, fin.2.1, fun w => fin.2.2 _ w⟩, fun a w => by simp at w⟩⟩
        | some b => exact ⟨fun w => by simp at w, fun a w => ⟨fun w => by simp at w, fun a w => ⟨fin.1, fin.2.1, fun w => fin.2.2 _ w⟩⟩⟩
    | succ u ih =>
      intro e j np pa pp pt c o f he hpa hjm hj1 hj2 hT hO
      have em : (va_up mm a0 (c_pt (mm a0) c pt)) a1 = mm a1 := va_up_ne _ _ (fun k => hne k.symm)
      have hlo := hT.lo
      have hhi := hT.hi
      have en : e < n := by omega
      have hin : vp_in (nI e) 12 := b_in (by omega) (by omega)
      have nle : ¬ (((va_up mm a0 (c_pt (mm a0) c pt)) a1).2.1 13) ≤ nI e := by
        rw [em, hsz]; exact nI_ge (by omega) (by omega)
      have skip : S.testBit e = true → w259_L131 (w259_L12 a0 cm ns sa ss a1 mc ms post (u + 1)) a0 cm ns sa ss a1 mc ms post (nI A) (nI S) (nI U) F o f (nI (A + j)) (nI e) q_o l_o o_r g_o g_t (va_up mm a0 (c_pt (mm a0) c pt)) np pa pp (np - n0) (3 * (np - n0)) := by
        intro hs
        refine c_tp131 (ih (e + 1) j np pa pp pt c o f (by omega) hpa hjm (fun i hi => Nat.lt_succ_of_lt (hj1 i hi)) (fun i hi hm => ?_) hT hO)
        have h1 := hj2 i hi hm
        by_cases w : k i = e
        · have := (hk3 e en).2 ⟨i, hm, w⟩
          rw [hs] at this
          exact absurd this (by decide)
        · omega
      have keptj : S.testBit e = false → j < m ∧ k j = e := by
        intro hs
        obtain ⟨i, hi, ei⟩ := (hk3 e en).1 hs
        by_cases w1 : i < j
        · have := hj1 i w1
          omega
        · by_cases w2 : i = j
          · exact w2 ▸ ⟨hi, ei⟩
          · have h1 := hj2 j (Nat.le_refl _) (by omega)
            have h2 := hk2 j i (by omega) hi
            omega
      obtain ⟨ae, hae⟩ := hp e en
      have hpe : ((va_up mm a0 (c_pt (mm a0) c pt)) a1).2.2.2.2.2 (Int32.toNatClampNeg (nI e)) = some ae := by rw [em, nI_clamp (by omega)]; exact hae
      have haen : ae < n0 := hpok a1 ha1 e ae hae
      have nx1 : S.testBit e = false → ∀ i, i < j + 1 → k i < e + 1 := by
        intro hs i hi
        by_cases w : i = j
        · rw [w, (keptj hs).2]; omega
        · exact Nat.lt_succ_of_lt (hj1 i (by omega))
      have nx2 : S.testBit e = false → ∀ i, j + 1 ≤ i → i < m → e + 1 ≤ k i := by
        intro hs i hi hm
        have := hk2 j i (by omega) hm
        rw [(keptj hs).2] at this
        exact this
      have pok' : px_pok cm np (va_up mm a0 (c_pt (mm a0) c pt)) := by
        intro i hi x y hxy
        by_cases w : i = a0
        · rw [w, va_up_self] at hxy
          have hxy : pt x = some y := hxy
          by_cases w2 : A ≤ x ∧ x < A + j
          · obtain ⟨a', b, h1, h2, h3, h4, h5, h6⟩ := hT.prt (x - A) (by omega)
            rw [show A + (x - A) = x by omega, hxy] at h3
            cases h3
            exact h5
          · rw [hT.pout x (by omega)] at hxy
            exact Nat.lt_of_lt_of_le (hpok a0 ha x y hxy) hlo
        · rw [va_up_ne _ _ w] at hxy
          exact Nat.lt_of_lt_of_le (hpok i hi x y hxy) hlo
      have sameC : S.testBit e = false → o = some ae → w259_L105 (w259_L12 a0 cm ns sa ss a1 mc ms post (u + 1)) a0 cm ns sa ss a1 mc ms post (nI A) (nI S) (nI U) F o f (nI (A + j)) (nI e) q_o l_o o_r g_o g_t (va_up mm a0 (c_pt (mm a0) c pt)) np pa pp (np - n0) (3 * (np - n0)) := by
        intro hs ho
        obtain ⟨jm, kj⟩ := keptj hs
        have hj0 : 0 < j := by
          by_cases w : j = 0
          · rw [(hO.1 w).1] at ho; simp at ho
          · omega
        obtain ⟨o1, o2⟩ := hO.2 hj0
        have hf : ∀ y, f = some y → y < np := by
          intro y hy
          obtain ⟨a', b, h1, h2, h3, h4, h5, h6⟩ := hT.prt (j - 1) (by omega)
          rw [o2, h3] at hy
          cases hy
          exact h5
        refine c_tp105 ha ha1 hne (by omega) (by omega) hf ?_
        rw [c_ptpt hne, show A + j + 1 = A + (j + 1) by omega]
        refine ih (e + 1) (j + 1) np pa pp _ _ o f (by omega) hpa (by omega) (nx1 hs) (nx2 hs) ?_ ⟨fun w => by omega, fun _ => ⟨?_, ?_⟩⟩
        · rw [o2, ← kj]
          exact c_TPold hT hj0 (by rw [kj]; exact hae) (by rw [← o1, ho])
        · rw [ho, Nat.add_sub_cancel, kj, hae]
        · rw [Nat.add_sub_cancel, va_up_self]
      have hd0 : ∀ d, o = some d → d < np := by
        intro d hd
        by_cases w : j = 0
        · rw [(hO.1 w).1] at hd; simp at hd
        · obtain ⟨a', b, h1, h2, h3, h4, h5, h6⟩ := hT.prt (j - 1) (by omega)
          rw [(hO.2 (by omega)).1, h1] at hd
          cases hd
          omega
      have hb0 : ∀ d, f = some d → d < np := by
        intro d hd
        by_cases w : j = 0
        · rw [(hO.1 w).2] at hd; simp at hd
        · obtain ⟨a', b, h1, h2, h3, h4, h5, h6⟩ := hT.prt (j - 1) (by omega)
          rw [(hO.2 (by omega)).2, h3] at hd
          cases hd
          exact h5
      have held : ∀ P : Int32 → Nat → Nat → Int32 → (Nat → Int32) → (Nat → Int32) → (Nat → px_MR) → Prop, P (x_hd (mm a1).2.2.2.2.2 cc S U tb n ae) q_o l_o o_r g_o g_t (va_up mm a0 (c_pt (mm a0) c pt)) → w260_wp a1 cm np ns pa sa pp ss ae P (nI S) (nI U) q_o l_o o_r g_o g_t (va_up mm a0 (c_pt (mm a0) c pt)) := by
        intro P hP
        refine c_held (t := tb ae) ha1 hn (by rw [em]; exact hsz) pok' (by rw [em]; exact hc) (by rw [hT.low ae haen]; exact ht ae haen) (by omega) hS hU ?_
        rw [em]; exact hP
      have newL : S.testBit e = false → o ≠ some ae → ∀ q, w259_L105 (w259_L12 a0 cm ns sa ss a1 mc ms post (u + 1)) a0 cm ns sa ss a1 mc ms post (nI A) (nI S) (nI U) F (some ae) (some np) (nI (A + j)) (nI e) q_o l_o o_r g_o g_t (va_up mm a0 (c_pt (mm a0) c pt)) (np + 1) (va_up pa np q) (va_up pp np ((pp0 ae).1, (pp0 ae).2.1 ||| x_hd (mm a1).2.2.2.2.2 cc S U tb n ae, if (pp0 ae).2.2 = F then 0 else 1)) (np - n0 + 1) (3 * (np - n0) + 3) := by
        intro hs ho q
        obtain ⟨jm, kj⟩ := keptj hs
        have hno : ∀ i, i < j → (mm a1).2.2.2.2.2 (k i) ≠ some ae := by
          intro i hi e1
          have o1 := (hO.2 (by omega)).1
          apply ho
          rw [o1]
          by_cases w : i = j - 1
          · rw [← w]; exact e1
          · have := hrun (k i) (k (j - 1)) (k j) (hk2 i (j - 1) (by omega) (by omega)) (hk2 (j - 1) j (by omega) jm) (by rw [kj]; exact en) (by rw [e1, kj, hae])
            rw [this, kj, hae]
        refine c_tp105 ha ha1 hne (by omega) (by omega) (fun y hy => by cases hy; omega) ?_
        rw [c_ptpt hne, show A + j + 1 = A + (j + 1) by omega, show np - n0 + 1 = np + 1 - n0 by omega, show 3 * (np - n0) + 3 = 3 * (np + 1 - n0) by omega]
        refine ih (e + 1) (j + 1) (np + 1) _ _ _ _ (some ae) (some np) (by omega) (fun x hx => by rw [va_up_ne _ _ (by omega)]; exact hpa x hx) (by omega) (nx1 hs) (nx2 hs) ?_ ⟨fun w => by omega, fun _ => ⟨?_, ?_⟩⟩
        · rw [← kj]
          exact c_TPnew hT (by rw [kj]; exact hae) haen hno
        · rw [Nat.add_sub_cancel, kj, hae]
        · rw [Nat.add_sub_cancel, va_up_self]
      have hpp : pp ae = pp0 ae := hT.low ae haen
      have aenp : ae < np := by omega
      have r1 : S.testBit e = false → np - n0 + 1 ≤ mc := fun hs => by have := (keptj hs).1; omega
      have r2 : S.testBit e = false → 3 * (np - n0) + 3 ≤ ms := fun hs => by have := (keptj hs).1; omega
      have ex : ∀ y, ((va_up mm a0 (c_pt (mm a0) c pt)) a1).2.2.2.2.2 (Int32.toNatClampNeg (nI e)) = some y → y = ae := by
        intro y hy
        rw [hpe] at hy
        cases hy
        rfl
      have nn : ∀ P : Prop, ((va_up mm a0 (c_pt (mm a0) c pt)) a1).2.2.2.2.2 (Int32.toNatClampNeg (nI e)) = none → P := fun P w => by
        rw [hpe] at w
        simp at w
      have bt : ¬ ((nI S >>> (nI e &&& 31)) &&& 1) = 0 → S.testBit e = true := fun w => by
        cases hh : S.testBit e with
        | true => rfl
        | false => exact absurd ((b_bit0 hS (by omega)).2 hh) w
      have bf : ((nI S >>> (nI e &&& 31)) &&& 1) = 0 → S.testBit e = false := fun w => (b_bit0 hS (by omega)).1 w
      have fl0 : (pp ae).2.2 = F → (if (pp0 ae).2.2 = F then (0 : Int32) else 1) = 0 := fun w => if_pos (by rw [← hpp]; exact w)
      have fl1 : ¬ (pp ae).2.2 = F → (if (pp0 ae).2.2 = F then (0 : Int32) else 1) = 1 := fun w => if_neg (by rw [← hpp]; exact w)
      cases o with
      | none =>
        cases f with
        | none =>
          refine ⟨fun _ => ⟨fun _ => ⟨ha1, fun w => absurd w nle, fun _ => ⟨fun w => skip (bt w), fun w => ⟨ha1, ha1, hin, nn _, fun k1 e1 => ⟨ha1, ha1, hin, nn _, fun k2 e2 => ⟨ha1, ha1, hin, nn _, fun k3 e3 => ?_⟩⟩⟩⟩⟩, fun a w => by simp at w⟩, fun a w => by simp at w⟩
          obtain rfl := ex k3 e3
          have hs := bf w
          refine ⟨r1 hs, r2 hs, fun q => ⟨aenp, aenp, ha1, held _ ⟨aenp, fun w2 => ⟨⟨rfl, rfl⟩, rfl, pok', fun pa2 pp2 e4 e5 => ⟨aenp, ?_⟩⟩, fun w2 => ⟨⟨rfl, rfl⟩, rfl, pok', fun pa2 pp2 e4 e5 => ⟨aenp, ?_⟩⟩⟩⟩⟩
          · have := newL hs (by simp) q
            rw [fl0 w2] at this
            rw [e4, e5, hpp]; exact this
          · have := newL hs (by simp) q
            rw [fl1 w2] at this
            rw [e4, e5, hpp]; exact this
        | some b =>
          exfalso
          by_cases w : j = 0
          · have := (hO.1 w).2
            simp at this
          · obtain ⟨a', b', h1, h2⟩ := hT.prt (j - 1) (by omega)
            have := (hO.2 (by omega)).1
            rw [h1] at this
            simp at this
      | some d =>
        cases f with
        | none =>
          exfalso
          by_cases w : j = 0
          · have := (hO.1 w).1
            simp at this
          · obtain ⟨a', b', h1, h2, h3, h4⟩ := hT.prt (j - 1) (by omega)
            have := (hO.2 (by omega)).2
            rw [h3] at this
            simp at this
        | some b =>
          have hd1 := hd0 d rfl
          have hb1 := hb0 b rfl
          refine ⟨fun w => by simp at w, fun a w0 => ?_⟩
          cases w0
          refine ⟨fun w => by simp at w, fun a w0 => ?_⟩
          cases w0
          refine ⟨ha1, fun w => absurd w nle, fun _ => ⟨fun w => skip (bt w), fun w => ⟨ha1, ha1, hin, nn _, fun k1 e1 => ⟨ha1, ha1, hin, nn _, fun k2 e2 => ?_⟩⟩⟩⟩
          obtain rfl := ex k2 e2
          have hs := bf w
          refine ⟨aenp, hd1, fun w1 => sameC hs (by rw [w1]), fun w1 => ⟨ha1, ha1, hin, nn _, fun k3 e3 => ?_⟩⟩
          obtain rfl := ex k3 e3
          have hno : some d ≠ some k3 := fun w => by cases w; exact w1 rfl
          refine ⟨r1 hs, r2 hs, fun q => ⟨aenp, aenp, ha1, held _ ⟨aenp, fun w2 => ⟨⟨rfl, rfl⟩, rfl, pok', fun pa2 pp2 e4 e5 => ⟨hb1, aenp, ?_⟩⟩, fun w2 => ⟨⟨rfl, rfl⟩, rfl, pok', fun pa2 pp2 e4 e5 => ⟨hb1, aenp, ?_⟩⟩⟩⟩⟩
          · have := newL hs hno q
            rw [fl0 w2] at this
            rw [e4, e5, hpp]; exact this
          · have := newL hs hno q
            rw [fl1 w2] at this
            rw [e4, e5, hpp]; exact this
  have := main n 0 0 n0 pa0 pp0 (mm a0).2.2.2.2.2 ((mm a0).2.2.2.1 2) none none (by omega) (fun _ _ => rfl) (Nat.zero_le _) (fun i hi => absurd hi (Nat.not_lt_zero i)) (fun i _ _ => Nat.zero_le _) c_TP0 ⟨fun _ => ⟨rfl, rfl⟩, fun w => absurd w (Nat.lt_irrefl _)⟩
  rw [show c_pt (mm a0) ((mm a0).2.2.2.1 2) (mm a0).2.2.2.2.2 = mm a0 by unfold c_pt; rw [b_upself], b_upself] at this
  rw [Nat.sub_self, Nat.add_zero] at this
  exact ⟨n + 1, this⟩
end CTR
