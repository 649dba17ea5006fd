/-! PURE, the reference's numbers in their pool: copy, product, quotient; divisor -/
theorem pn_ix2 {a b : Nat} (ha : a < 200) (hb : b < 200) (h : a ≠ b) : px_ix [a, b] := ⟨by simp [h], fun i hi => by simp at hi; rcases hi with q | q <;> (subst q; assumption)⟩
theorem pn_ix3 {a b c : Nat} (ha : a < 200) (hb : b < 200) (hc : c < 200) (h1 : a ≠ b) (h2 : a ≠ c) (h3 : b ≠ c) : px_ix [a, b, c] := ⟨by simp [h1, h2, h3], fun i hi => by simp at hi; rcases hi with q | q | q <;> (subst q; assumption)⟩
theorem pn_ix4 {a b c d : Nat} (ha : a < 200) (hb : b < 200) (hc : c < 200) (hd : d < 200) (h1 : a ≠ b) (h2 : a ≠ c) (h3 : a ≠ d) (h4 : b ≠ c) (h5 : b ≠ d) (h6 : c ≠ d) : px_ix [a, b, c, d] := ⟨by simp [h1, h2, h3, h4, h5, h6], fun i hi => by simp at hi; rcases hi with q | q | q | q <;> (subst q; assumption)⟩
section RPO
variable {nv : Nat → px_NV} {a0 a1 a2 a3 : Nat} {x y : Int}
theorem pn_Nc {n m : Int32} {f g : Nat → Int32} {z : Int} {k : Nat} (hk : k ≤ 160) (hn : n = nI k) (h : pn_N ⟨n, m, f⟩ z) (hg : ∀ i, i < k → g i = f i) : pn_N ⟨n, m, g⟩ z := by
  obtain ⟨k', h1, h2, h3, h4, h5, h6⟩ := h
  have h2 : n = nI k' := h2
  have e : k' = k := (nI_eq (by omega) (by omega)).1 (by rw [← h2, ← hn])
  subst e
  refine ⟨k', h1, h2, fun j hj => ?_, ?_, ?_, h6⟩
  · obtain ⟨d, q1, q2⟩ := h3 j hj
    exact ⟨d, q1, by rw [show (⟨n, m, g⟩ : px_NV).2.2 j = g j from rfl, hg j hj]; exact q2⟩
  · by_cases q : k' = 0
    · exact Or.inl q
    · refine Or.inr ?_
      rw [show (⟨n, m, g⟩ : px_NV).2.2 (k' - 1) = g (k' - 1) from rfl, hg _ (by omega)]
      exact h4.resolve_left q
  · rw [← h5]; exact pn_v_congr k' hg
theorem pn_cpP {Q : (Nat → px_NV) → Prop} (h0 : a0 < 200) (h1 : a1 < 200) (h01 : a0 ≠ a1) (hx : pn_N (nv a1) x) (h : ∀ nv', (∀ c, c ≠ a0 → nv' c = nv c) → pn_N (nv' a0) x → Q nv') : px_ix [a0, a1] ∧ (ncp_wp (fun v1 v2 v3 v4 v5 v6 => ∀ nv' : Nat → px_NV, nv' = px_fold nv [(a0, ⟨v1, v2, v3⟩), (a1, ⟨v4, v5, v6⟩)] → Q nv') ((nv a0).1) ((nv a0).2.1) ((nv a0).2.2) ((nv a1).1) ((nv a1).2.1) ((nv a1).2.2)) := by
  obtain ⟨k, p1, p2, p3, p4, p5, p6⟩ := id hx
  refine ⟨pn_ix2 h0 h1 h01, ?_⟩
  rw [p2]
  refine pn_copy p1 (by rw [p6]; exact b_01) (fun g hg nv' e => h nv' (fun c hc => ?_) ?_)
  · rw [e, ← p2]
    show va_up (va_up nv a1 (nv a1)) a0 _ c = _
    rw [pn_un hc]
    by_cases q : c = a1
    · subst q; rw [va_up_self]
    · rw [pn_un q]
  · rw [e]
    show pn_N (va_up (va_up nv a1 _) a0 _ a0) x
    rw [va_up_self]
    have hx' : pn_N ⟨nI k, (nv a1).2.1, (nv a1).2.2⟩ x := by rw [← p2]; exact hx
    exact pn_Nc p1 rfl hx' hg
theorem pn_prP {Q : (Nat → px_NV) → Prop} {c d : Nat} (h0 : a0 < 200) (h1 : a1 < 200) (h2 : a2 < 200) (h01 : a0 ≠ a1) (h02 : a0 ≠ a2) (h12 : a1 ≠ a2) (hx : pn_N (nv a1) x) (hy : pn_N (nv a2) y) (bx : x.natAbs < 65536 ^ c) (by_ : y.natAbs < 65536 ^ d) (hcd : c + d ≤ 160) (h : ∀ nv', (∀ c, c ≠ a0 → nv' c = nv c) → pn_N (nv' a0) (x * y) → Q nv') : px_ix [a0, a1, a2] ∧ (npr_wp (fun v1 v2 v3 v4 v5 v6 v7 v8 v9 => ∀ nv' : Nat → px_NV, nv' = px_fold nv [(a0, ⟨v1, v2, v3⟩), (a1, ⟨v4, v5, v6⟩), (a2, ⟨v7, v8, v9⟩)] → Q nv') ((nv a0).1) ((nv a0).2.1) ((nv a0).2.2) ((nv a1).1) ((nv a1).2.1) ((nv a1).2.2) ((nv a2).1) ((nv a2).2.1) ((nv a2).2.2)) := by
  obtain ⟨k, c1, p1, p2, p3, p4, p5, p6⟩ := pn_Nk hx bx
  obtain ⟨l, c2, q1, q2, q3, q4, q5, q6⟩ := pn_Nk hy by_
  refine ⟨pn_ix3 h0 h1 h2 h01 h02 h12, ?_⟩
  rw [p2, q2]
  refine pn_product (by omega) p3 q3 (fun k' g w1 w2 w3 w4 nv' e => h nv' (fun c hc => ?_) ?_)
  · rw [e, ← p2, ← q2]
    show va_up (va_up (va_up nv a2 (nv a2)) a1 (nv a1)) a0 _ c = _
    rw [pn_un hc]
    by_cases q : c = a1
    · subst q; rw [va_up_self]
    · rw [pn_un q]
      by_cases q' : c = a2
      · subst q'; rw [va_up_self]
      · rw [pn_un q']
  · rw [e]
    show pn_N (va_up _ a0 _ a0) (x * y)
    rw [va_up_self]
    have hv : pn_v g k' = (x * y).natAbs := by rw [w4, p5, q5, Int.natAbs_mul]
    have hz := pn_k0 (x := (⟨nI k', 0, g⟩ : px_NV)) (z := x * y) rfl w2 w3 hv
    refine ⟨k', by omega, rfl, w2, w3, hv, ?_⟩
    show (if k' = 0 then 0 else if (nv a1).2.1 = (nv a2).2.1 then 0 else 1) = _
    by_cases q : k' = 0
    · rw [if_pos q, hz.1 q]; rfl
    · rw [if_neg q]
      have hne : ¬ x * y = 0 := fun w => q (hz.2 w)
      have hx0 : x ≠ 0 := fun w => hne (by rw [w, Int.zero_mul])
      have hy0 : y ≠ 0 := fun w => hne (by rw [w, Int.mul_zero])
      have hs : (x < 0 ↔ y < 0) ↔ ¬ x * y < 0 := by
        rcases Int.lt_or_gt_of_ne hx0 with a | a <;> rcases Int.lt_or_gt_of_ne hy0 with b | b
        · have := Int.mul_pos_of_neg_of_neg a b; omega
        · have := Int.mul_neg_of_neg_of_pos a b; omega
        · have := Int.mul_neg_of_pos_of_neg a b; omega
        · have := Int.mul_pos a b; omega
      by_cases w : (nv a1).2.1 = (nv a2).2.1
      · rw [if_pos w]; rw [p6, q6, b_ite2, hs] at w; rw [if_neg w]
      · rw [if_neg w]; rw [p6, q6, b_ite2, hs] at w; rw [if_pos (Classical.not_not.mp w)]
theorem pn_quP {Q : (Nat → px_NV) → Prop} (h0 : a0 < 200) (h1 : a1 < 200) (h2 : a2 < 200) (h3 : a3 < 200) (h01 : a0 ≠ a1) (h02 : a0 ≠ a2) (h03 : a0 ≠ a3) (h12 : a1 ≠ a2) (h13 : a1 ≠ a3) (h23 : a2 ≠ a3) (hx : pn_N (nv a1) x) (hy : pn_N (nv a2) y) (by_ : y.natAbs < 65536 ^ 159) (hy0 : y ≠ 0) (h : ∀ nv', (∀ c, c ≠ a0 → c ≠ a3 → nv' c = nv c) → pn_N (nv' a0) (x.tdiv y) → pn_N (nv' a3) ((x.natAbs % y.natAbs : Nat) : Int) → Q nv') : px_ix [a0, a1, a2, a3] ∧ (nqu_wp (fun v1 v2 v3 v4 v5 v6 v7 v8 v9 v10 v11 v12 => ∀ nv' : Nat → px_NV, nv' = px_fold nv [(a0, ⟨v1, v2, v3⟩), (a1, ⟨v4, v5, v6⟩), (a2, ⟨v7, v8, v9⟩), (a3, ⟨v10, v11, v12⟩)] → Q nv') ((nv a0).1) ((nv a0).2.1) ((nv a0).2.2) ((nv a1).1) ((nv a1).2.1) ((nv a1).2.2) ((nv a2).1) ((nv a2).2.1) ((nv a2).2.2) ((nv a3).1) ((nv a3).2.1) ((nv a3).2.2)) := by
  obtain ⟨k, p1, p2, p3, p4, p5, p6⟩ := id hx
  obtain ⟨l, c2, q1, q2, q3, q4, q5, q6⟩ := pn_Nk hy by_
  refine ⟨pn_ix4 h0 h1 h2 h3 h01 h02 h03 h12 h13 h23, ?_⟩
  rw [p2, q2]
  refine pn_quot p1 c2 p3 q3 p4 q4 p5 q5 p6 q6 hy0 (fun n0' m0' f0' n3' m3' f3' hN0 hN3 nv' e => h nv' (fun c hc hc3 => ?_) ?_ ?_)
  · rw [e, ← p2, ← q2]
    show va_up (va_up (va_up (va_up nv a3 _) a2 (nv a2)) a1 (nv a1)) a0 _ c = _
    rw [pn_un hc]
    by_cases q : c = a1
    · subst q; rw [va_up_self]
    · rw [pn_un q]
      by_cases q' : c = a2
      · subst q'; rw [va_up_self]
      · rw [pn_un q', pn_un hc3]
  · rw [e]
    show pn_N (va_up _ a0 _ a0) _
    rw [va_up_self]; exact hN0
  · rw [e]
    show pn_N (va_up (va_up (va_up (va_up nv a3 _) a2 _) a1 _) a0 _ a3) _
    rw [pn_un (fun z => h03 z.symm), pn_un (fun z => h13 z.symm), pn_un (fun z => h23 z.symm), va_up_self]; exact hN3
theorem pn_abs {v : px_NV} (h : pn_N v x) : pn_N ⟨v.1, 0, v.2.2⟩ (x.natAbs : Int) := by
  obtain ⟨k, p1, p2, p3, p4, p5, p6⟩ := h
  exact ⟨k, p1, p2, p3, p4, by rw [Int.natAbs_natCast]; exact p5, by rw [if_neg (by omega)]⟩
theorem pn_N0 {v : px_NV} {z : Int} (h : pn_N v z) : (v.1 ≤ 0 ↔ z = 0) ∧ (v.1 = 0 ↔ z = 0) := by
  obtain ⟨k, p1, p2, p3, p4, p5, p6⟩ := h
  have := pn_k0 p2 p3 p4 p5
  rw [p2]
  constructor
  · rw [← this]
    exact ⟨fun w => Classical.byContradiction (fun q => nI_nle (by omega) (by omega) w), fun q => by rw [q]; exact Int32.le_refl 0⟩
  · rw [← this]
    exact ⟨fun w => Classical.byContradiction (fun q => nI_ne0 (by omega) (by omega) w), fun q => by rw [q]; rfl⟩
/-- divisor -/
theorem r_divL {post : (Nat → Int32) → (Nat → px_NV) → Prop} {iv : Nat → Int32} {nv0 : Nat → px_NV} {G : Nat} (hpost : ∀ nv', (∀ c, c ≠ 193 → c ≠ 194 → c ≠ 195 → c ≠ 196 → nv' c = nv0 c) → pn_N (nv' 196) (G : Int) → post iv nv') : ∀ (u : Nat) (A B : Nat) (nv : Nat → px_NV), B ≤ u → B < 65536 ^ 159 → (∀ c, c ≠ 193 → c ≠ 194 → c ≠ 195 → c ≠ 196 → nv c = nv0 c) → pn_N (nv 196) (A : Int) → pn_N (nv 195) (B : Int) → Nat.gcd A B = G → w46_L32 a1 a2 post (u + 1) iv nv := by
  intro u
  induction u with
  | zero =>
    intro A B nv hu hB hc hA hBN hG
    have : B = 0 := by omega
    subst this
    rw [Nat.gcd_zero_right] at hG
    subst hG
    exact ⟨fun _ => hpost nv hc hA, fun w => absurd ((pn_N0 hBN).1.2 rfl) w⟩
  | succ u ih =>
    intro A B nv hu hB hc hA hBN hG
    unfold w46_L32
    refine ⟨fun w => ?_, fun w => ?_⟩
    · have : B = 0 := by have := (pn_N0 hBN).1.1 w; omega
      subst this
      rw [Nat.gcd_zero_right] at hG
      subst hG
      exact hpost nv hc hA
    · have hB0 : B ≠ 0 := fun q => w ((pn_N0 hBN).1.2 (by rw [q]; rfl))
      have hlt : A % B < B := Nat.mod_lt A (by omega)
      refine pn_quP (x := (A : Int)) (y := (B : Int)) (by decide) (by decide) (by decide) (by decide) (by decide) (by decide) (by decide) (by decide) (by decide) (by decide) hA hBN (by rw [Int.natAbs_natCast]; exact hB) (by omega) (fun nv1 k1 _ r1 => ?_)
      rw [Int.natAbs_natCast, Int.natAbs_natCast] at r1
      refine pn_cpP (x := (B : Int)) (by decide) (by decide) (by decide) (by rw [k1 195 (by decide) (by decide)]; exact hBN) (fun nv2 k2 r2 => ?_)
      refine pn_cpP (x := ((A % B : Nat) : Int)) (by decide) (by decide) (by decide) (by rw [k2 193 (by decide)]; exact r1) (fun nv3 k3 r3 => ?_)
      refine ih B (A % B) nv3 (by omega) (by omega) (fun c c1 c2 c3 c4 => by rw [k3 c c3, k2 c c4, k1 c c2 c1]; exact hc c c1 c2 c3 c4) (by rw [k3 196 (by decide)]; exact r2) r3 ?_
      rw [← hG, Nat.gcd_comm A B, Nat.gcd_rec B A, Nat.gcd_comm]
theorem r_divisor {post : (Nat → Int32) → (Nat → px_NV) → Prop} {iv : Nat → Int32} (h1 : a1 < 200) (h2 : a2 < 200) (q1 : a1 ≠ 196) (q2 : a2 ≠ 196) (q3 : a2 ≠ 195) (hx : pn_N (nv a1) x) (hy : pn_N (nv a2) y) (by_ : y.natAbs < 65536 ^ 159) (h : ∀ nv', (∀ c, c ≠ 193 → c ≠ 194 → c ≠ 195 → c ≠ 196 → nv' c = nv c) → pn_N (nv' 196) ((Nat.gcd x.natAbs y.natAbs : Nat) : Int) → post iv nv') : w46_wp a1 a2 post iv nv := by
  unfold w46_wp
  refine pn_cpP (x := x) (by decide) h1 (fun z => q1 z.symm) hx (fun nv1 k1 r1 nv2 e2 => ?_)
  have r2 : pn_N (nv2 196) (x.natAbs : Int) := by rw [e2, va_up_self]; exact pn_abs r1
  have k2 : ∀ c, c ≠ 196 → nv2 c = nv c := fun c hc => by rw [e2, pn_un hc]; exact k1 c hc
  refine pn_cpP (x := y) (by decide) h2 (fun z => q3 z.symm) (by rw [k2 a2 q2]; exact hy) (fun nv3 k3 r3 nv4 e4 => ?_)
  have r4 : pn_N (nv4 195) (y.natAbs : Int) := by rw [e4, va_up_self]; exact pn_abs r3
  have k4 : ∀ c, c ≠ 195 → nv4 c = nv2 c := fun c hc => by rw [e4, pn_un hc]; exact k3 c hc
  refine ⟨y.natAbs + 1, r_divL (nv0 := nv) h y.natAbs x.natAbs y.natAbs nv4 (Nat.le_refl _) by_ (fun c c1 c2 c3 c4 => by rw [k4 c c3, k2 c c4]) (by rw [k4 196 (by decide)]; exact r2) r4 rfl⟩
end RPO
