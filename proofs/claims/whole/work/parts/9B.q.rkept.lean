/-! PURE, the reference: store, fetch, cell -/
/-- the number z is kept at place P -/
def r_kN (gk : Nat → Int32) (P : Nat) (z : Int) : Prop := ∃ k, k ≤ 23 ∧ gk P = (if z < 0 then - nI k else nI k) ∧ pn_d (fun j => gk (P + 1 + j)) k ∧ (k = 0 ∨ ¬ gk (P + 1 + (k - 1)) = 0) ∧ pn_v (fun j => gk (P + 1 + j)) k = z.natAbs
theorem r_kNc {gk gk' : Nat → Int32} {P : Nat} {z : Int} (h : r_kN gk P z) (e : ∀ q, P ≤ q → q < P + 24 → gk' q = gk q) : r_kN gk' P z := by
  obtain ⟨k, h1, h2, h3, h4, h5⟩ := h
  refine ⟨k, h1, by rw [e P (by omega) (by omega)]; exact h2, fun j hj => ?_, ?_, ?_⟩
  · obtain ⟨d, q1, q2⟩ := h3 j hj
    exact ⟨d, q1, by show gk' (P + 1 + j) = _; rw [e _ (by omega) (by omega)]; exact q2⟩
  · by_cases q : k = 0
    · exact Or.inl q
    · refine Or.inr ?_
      rw [e _ (by omega) (by omega)]; exact h4.resolve_left q
  · rw [← h5]
    exact pn_v_congr k (fun j hj => e _ (by omega) (by omega))
theorem b_negn {k : Nat} (hk : 0 < k) (h : k < 2 ^ 30) : - nI k < 0 := by
  have := pk_sneg (a := 0) (b := k) h hk
  have e : nI 0 - nI k = - nI k := by rw [nI_0]; grind
  rw [e] at this; exact this
section RKE
variable {nv : Nat → px_NV} {iv gk gq gs : Nat → Int32} {a1 P : Nat} {z : Int}
theorem r_store {post : (Nat → Int32) → (Nat → Int32) → (Nat → px_NV) → Prop} (h1 : a1 < 200) (hP : P + 24 ≤ 89856) (hx : pn_N (nv a1) z) (hb : z.natAbs < 65536 ^ 23) (h : ∀ gk', (∀ q, (q < P ∨ P + 24 ≤ q) → gk' q = gk q) → r_kN gk' P z → post iv gk' nv) : w64_wp a1 post (nI P) iv gk nv := by
  obtain ⟨k, c1, p1, p2, p3, p4, p5, p6⟩ := pn_Nk hx hb
  have zk := pn_k0 p2 p3 p4 p5
  have main : ∀ (u j : Nat) (g : Nat → Int32), j + u = k → (∀ q, (q < P ∨ P + 24 ≤ q) → g q = gk q) → g P = (if z < 0 then - nI k else nI k) → (∀ j', j' < j → g (P + 1 + j') = (nv a1).2.2 j') → w64_L27 a1 post (u + 1) (nI P) (nI j) iv g nv := by
    intro u
    induction u with
    | zero =>
      intro j g hj g1 g2 g3
      have : j = k := by omega
      subst this
      refine ⟨h1, fun _ => h g g1 ⟨j, c1, g2, fun j' hj' => ?_, ?_, ?_⟩, fun w => absurd (by rw [p2]; exact nI_le (Nat.le_refl j) (by omega)) w⟩
      · obtain ⟨d, q1, q2⟩ := p3 j' hj'
        exact ⟨d, q1, by show g (P + 1 + j') = _; rw [g3 j' hj']; exact q2⟩
      · by_cases q : j = 0
        · exact Or.inl q
        · exact Or.inr (by rw [g3 _ (by omega)]; exact p4.resolve_left q)
      · rw [← p5]; exact pn_v_congr j g3
    | succ u ih =>
      intro j g hj g1 g2 g3
      unfold w64_L27
      rw [p2, nI_clamp (show j < 2 ^ 31 by omega), nI_1, nI_add, nI_clamp (show P + 1 + j < 2 ^ 31 by omega)]
      refine ⟨h1, fun w => absurd w (nI_ge (by omega) (by omega)), fun _ => ⟨h1, h1, b_in (by omega) (by omega), fun z1 e1 => ⟨b_in (by omega) (by omega), fun z2 e2 => ?_⟩⟩⟩
      rw [e2, nI_1]
      refine ih (j + 1) _ (by omega) (fun q w => by rw [pk_un (by omega)]; exact g1 q w) (by rw [pk_un (by omega)]; exact g2) (fun j' hj' => ?_)
      by_cases q : j' = j
      · subst q; rw [pk_us, e1]
      · rw [pk_un (by omega)]; exact g3 j' (by omega)
  unfold w64_wp w64_L24
  rw [nI_clamp (show P < 2 ^ 31 by omega), p2]
  refine ⟨h1, fun w => ⟨h1, b_in (by omega) (by omega), k + 1, ?_⟩, fun w => ⟨h1, b_in (by omega) (by omega), k + 1, ?_⟩⟩
  · rw [p6] at w
    refine main k 0 _ (by omega) (fun q w => pk_un (by omega)) ?_ (fun j' hj' => absurd hj' (Nat.not_lt_zero j'))
    rw [pk_us, if_neg (fun q => by rw [if_pos q] at w; exact t_10 w)]
  · rw [p6] at w
    refine main k 0 _ (by omega) (fun q w => pk_un (by omega)) ?_ (fun j' hj' => absurd hj' (Nat.not_lt_zero j'))
    rw [pk_us, if_pos (Classical.byContradiction (fun q => w (if_neg q)))]
theorem r_fetch {post : (Nat → Int32) → (Nat → Int32) → (Nat → px_NV) → Prop} (h1 : a1 < 200) (hP : P + 24 ≤ 89856) (hk : r_kN gk P z) (h : ∀ nv', (∀ c, c ≠ a1 → nv' c = nv c) → pn_N (nv' a1) z → post iv gk nv') : w65_wp a1 post (nI P) iv gk nv := by
  obtain ⟨k, c1, c2, c3, c4, c5⟩ := hk
  have zk : k = 0 ↔ z = 0 := pn_k0 (x := ⟨nI k, 0, fun j => gk (P + 1 + j)⟩) rfl c3 c4 c5
  have main : ∀ (u j : Nat) (nv1 : Nat → px_NV), j + u = k → (∀ c, c ≠ a1 → nv1 c = nv c) → (nv1 a1).1 = nI k → (nv1 a1).2.1 = (if z < 0 then 1 else 0) → (∀ j', j' < j → (nv1 a1).2.2 j' = gk (P + 1 + j')) → w65_L49 a1 post (u + 1) (nI P) (nI j) iv gk nv1 := by
    intro u
    induction u with
    | zero =>
      intro j nv1 hj g1 g2 g3 g4
      have : j = k := by omega
      subst this
      refine ⟨h1, fun _ => h nv1 g1 ⟨j, by omega, g2, fun j' hj' => ?_, ?_, ?_, g3⟩, fun w => absurd (by rw [g2]; exact nI_le (Nat.le_refl j) (by omega)) w⟩
      · obtain ⟨d, q1, q2⟩ := c3 j' hj'
        exact ⟨d, q1, by rw [g4 j' hj']; exact q2⟩
      · by_cases q : j = 0
        · exact Or.inl q
        · exact Or.inr (by rw [g4 _ (by omega)]; exact c4.resolve_left q)
      · rw [← c5]; exact pn_v_congr j g4
    | succ u ih =>
      intro j nv1 hj g1 g2 g3 g4
      unfold w65_L49
      rw [g2, nI_clamp (show j < 2 ^ 31 by omega), nI_1, nI_add, nI_clamp (show P + 1 + j < 2 ^ 31 by omega)]
      refine ⟨h1, fun w => absurd w (nI_ge (by omega) (by omega)), fun _ => ⟨h1, b_in (by omega) (by omega), fun z1 e1 => ⟨h1, b_in (by omega) (by omega), fun nv2 e2 z3 e3 => ?_⟩⟩⟩
      rw [e3, nI_1]
      refine ih (j + 1) nv2 (by omega) (fun c hc => by rw [e2, pn_un hc]; exact g1 c hc) (by rw [e2, va_up_self]) (by rw [e2, va_up_self]; exact g3) (fun j' hj' => ?_)
      rw [e2, va_up_self]
      show upd (nv1 a1).2.2 j z1 j' = _
      by_cases q : j' = j
      · subst q; rw [pk_us, e1]
      · rw [pk_un q]; exact g4 j' (by omega)
  have fin : ∀ y0 : Int32, y0 = (if z < 0 then 1 else 0) → w65_L15 a1 post (nI P) y0 iv gk nv := by
    intro y0 ey
    have hy : y0 = 0 ∨ y0 = 1 := by rw [ey]; exact b_01
    unfold w65_L15 w65_L44
    rw [nI_clamp (show P < 2 ^ 31 by omega), c2]
    have go : ∀ v : Int32, v = nI k → ∀ nv5 : Nat → px_NV, nv5 = va_up nv a1 ⟨(nv a1).1, y0, (nv a1).2.2⟩ → a1 < 200 ∧ ((∀ nv4 : Nat → px_NV, nv4 = va_up nv5 a1 ⟨v, (nv5 a1).2.1, (nv5 a1).2.2⟩ → (∃ j49, w65_L49 a1 post j49 (nI P) 0 iv gk nv4))) := by
      intro v ev nv5 e5
      refine ⟨h1, fun nv4 e4 => ⟨k + 1, main k 0 nv4 (by omega) (fun c hc => by rw [e4, pn_un hc, e5, pn_un hc]) (by rw [e4, va_up_self]; exact ev) (by rw [e4, va_up_self, e5, va_up_self]; exact ey) (fun j' hj' => absurd hj' (Nat.not_lt_zero j'))⟩⟩
    refine ⟨h1, pn_bool hy, fun nv5 e5 => ⟨b_in (by omega) (by omega), fun w => ⟨b_in (by omega) (by omega), go _ ?_ nv5 e5⟩, fun w => ⟨b_in (by omega) (by omega), go _ ?_ nv5 e5⟩⟩⟩
    · by_cases q : z < 0
      · rw [if_pos q] at w
        exact absurd w (Int32.not_le.mpr (b_negn (by omega) (by omega)))
      · rw [if_neg q]
    · by_cases q : z < 0
      · rw [if_pos q]; grind
      · rw [if_neg q] at w
        exact absurd (nI_pos' (by omega)) w
  unfold w65_wp
  rw [nI_clamp (show P < 2 ^ 31 by omega), c2]
  refine ⟨b_in (by omega) (by omega), fun w => fin 0 ?_, fun w => fin 1 ?_⟩
  · by_cases q : z < 0
    · rw [if_pos q] at w
      exact absurd w (Int32.not_le.mpr (b_negn (by omega) (by omega)))
    · rw [if_neg q]
  · by_cases q : z < 0
    · rw [if_pos q]
    · rw [if_neg q] at w
      exact absurd (nI_pos' (by omega)) w
end RKE
