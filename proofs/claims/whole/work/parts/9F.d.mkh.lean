/-! PURE: what a statement makes, told by its text -/
theorem x_ob0 {v : Nat} {A B : Option x_LR} {bad : Nat → Bool} (h : x_ob v A B bad = 0) : (2 < v → ∃ a, A = some a) ∧ ((v = 6 ∨ v = 16 ∨ v = 19) → ∃ c, B = some c) ∧ bad (A.getD x_D0).2.1 = false ∧ (v = 6 → (A.getD x_D0).2.1 + (B.getD x_D0).2.1 ≤ 12 ∧ (A.getD x_D0).1 = (B.getD x_D0).1) ∧ (v = 16 → (A.getD x_D0).2.1 = (B.getD x_D0).2.1) := by
  unfold x_ob at h
  by_cases q : (2 < v ∧ A = none) ∨ ((v = 6 ∨ v = 16 ∨ v = 19) ∧ B = none)
  · rw [if_pos q] at h; exact absurd h (by decide)
  · rw [if_neg q] at h
    have hA : 2 < v → ∃ a, A = some a := fun w => by
      cases A with
      | none => exact absurd (Or.inl ⟨w, rfl⟩) q
      | some a => exact ⟨a, rfl⟩
    have hB : (v = 6 ∨ v = 16 ∨ v = 19) → ∃ c, B = some c := fun w => by
      cases B with
      | none => exact absurd (Or.inr ⟨w, rfl⟩) q
      | some a => exact ⟨a, rfl⟩
    refine ⟨hA, hB, ?_⟩
    have nb : ∀ n, ¬ bad n = true → bad n = false := fun n w => by
      cases hh : bad n with
      | false => rfl
      | true => exact absurd hh w
    cases A with
    | none =>
      have h : (if bad 0 = true then (2 : Int32) else 0) = 0 := h
      have h0 : ¬ bad 0 = true := fun w => by rw [if_pos w] at h; exact absurd h (by decide)
      exact ⟨nb 0 h0, fun w => absurd (hA (by omega)) (by simp), fun w => absurd (hA (by omega)) (by simp)⟩
    | some A =>
      cases B with
      | none =>
        have h : (if bad A.2.1 = true then (2 : Int32) else if (v = 17 ∨ v = 18) ∧ ¬ A.1 = 0 then 5 else 0) = 0 := h
        have h0 : ¬ bad A.2.1 = true := fun w => by rw [if_pos w] at h; exact absurd h (by decide)
        exact ⟨nb _ h0, fun w => absurd (hB (by omega)) (by simp), fun w => absurd (hB (by omega)) (by simp)⟩
      | some B =>
        have h : (if bad A.2.1 = true then (2 : Int32) else if v = 6 ∧ 12 < A.2.1 + B.2.1 then 3 else if v = 6 ∧ ¬ A.1 = B.1 then 4 else if v = 16 ∧ ¬ A.2.1 = B.2.1 then 6 else 0) = 0 := h
        have h0 : ¬ bad A.2.1 = true := fun w => by rw [if_pos w] at h; exact absurd h (by decide)
        rw [if_neg h0] at h
        have h1 : ¬ (v = 6 ∧ 12 < A.2.1 + B.2.1) := fun w => by rw [if_pos w] at h; exact absurd h (by decide)
        rw [if_neg h1] at h
        have h2 : ¬ (v = 6 ∧ ¬ A.1 = B.1) := fun w => by rw [if_pos w] at h; exact absurd h (by decide)
        rw [if_neg h2] at h
        have h3 : ¬ (v = 16 ∧ ¬ A.2.1 = B.2.1) := fun w => by rw [if_pos w] at h; exact absurd h (by decide)
        refine ⟨nb _ h0, fun w => ⟨?_, ?_⟩, fun w => ?_⟩
        · show A.2.1 + B.2.1 ≤ 12
          omega
        · exact Classical.byContradiction (fun z => h2 ⟨w, z⟩)
        · exact Classical.byContradiction (fun z => h3 ⟨w, z⟩)
section CMH
variable {b : Nat → Int32} {L i : Nat} {lt : Nat → Option x_LR} {sk : Nat → Nat → Nat} {sv : Nat} {sg sf s2 sd sh sx smn sr se : Int32} {gn : Nat → Int32}
/-- first and second letter -/
theorem t_fiE (hok : s_ok b L i sv sg sf s2 sd sh sx smn sr se gn) : sf = t_pfi b L i ∧ s2 = t_pse b L i ∧ t_pv b L i = sv := by
  obtain ⟨hV, h1, h2, h3, h4, h5, h6⟩ := hok
  have e := t_pvE hV
  unfold t_pfi t_pse
  rw [e]
  refine ⟨?_, ?_, rfl⟩
  · by_cases q : sv ≤ 2
    · rw [if_pos q] at h4 ⊢; exact h4
    · rw [if_neg q] at h4 ⊢; exact h4
  · by_cases q : sv = 6 ∨ sv = 16 ∨ sv = 19
    · rw [if_pos q] at h5 ⊢; exact h5
    · rw [if_neg q] at h5 ⊢; exact h5
theorem t_fiN {tg : Int32} (hV : s_V b L i sv tg) (hrd : (t_st b L i).1 = true) (h3 : 2 < sv) : (∃ f, f < 26 ∧ t_pfi b L i = nI f) ∧ ((sv = 6 ∨ sv = 16 ∨ sv = 19) → ∃ f, f < 26 ∧ t_pse b L i = nI f) ∧ (¬ (sv = 6 ∨ sv = 16 ∨ sv = 19) → t_pse b L i = -1) := by
  have e := t_pvE hV
  obtain ⟨n1, n2⟩ := t_stN hV hrd h3
  unfold t_pfi t_pse
  rw [e]
  refine ⟨?_, fun w => ?_, fun w => ?_⟩
  · rw [if_neg (by omega)]; exact t_nmx n1
  · rw [if_pos w]; exact t_nmx (n2 w)
  · rw [if_neg w]
theorem x_ltn {f : Nat} (hf : f < 26) : x_lt lt (nI f) = lt f := by
  unfold x_lt
  rw [if_neg (nI_pos (by omega)), if_pos (show nI f < 26 from nI_lt hf (by decide)), nI_clamp (by omega)]
theorem c_mkHG (hL16 : L ≤ 16384) (hok : s_ok b L i sv sg sf s2 sd sh sx smn sr se gn) (hrd : (t_st b L i).1 = true) (hO : x_sO b L i lt = 0) (hv : t_pv b L i ≤ 7) (hn : ∀ f A, f < 26 → lt f = some A → A.2.1 ≤ 12) :
    c_mkH (decide (t_pv b L i ≤ 2)) (decide (t_pv b L i = 4 ∨ t_pv b L i = 5)) lt sk sv sf s2 sd sh sx smn sr gn (t_pvs b L i) (x_sC b L i lt) (x_k1 (t_pv b L i) (t_pfi b L i).toNatClampNeg (x_sA b L i lt).2.1 sk) (x_sA b L i lt).2.1 (sk (t_pfi b L i).toNatClampNeg) ∧ sg = nI (t_ptg b L i) ∧ t_ptg b L i < 26 := by
  obtain ⟨e1, e2, ev⟩ := t_fiE hok
  obtain ⟨hV, h1, h2, h3, h4, h5, h6, h7⟩ := id hok
  have htg : sg = nI (t_ptg b L i) ∧ t_ptg b L i < 26 := by
    obtain ⟨x, hx, ex⟩ := t_stT hV (by omega)
    have : t_ptg b L i = x := by
      unfold t_ptg
      have hg : sg = b (t_j b L i) - 97 := by
        have h2 := hV.2
        by_cases q : t_nm b L i = true
        · rw [if_pos q] at h2; exact h2.2.1
        · rw [if_neg q] at h2; omega
      rw [← hg, ex, nI_clamp (by omega)]
    rw [this]; exact ⟨ex, hx⟩
  refine ⟨?_, htg⟩
  obtain ⟨o1, o2, o3, o4, o5⟩ := x_ob0 hO
  have eA : (x_lt lt (t_pfi b L i)).getD x_D0 = x_sA b L i lt := rfl
  have eB : (x_lt lt (t_pse b L i)).getD x_D0 = x_sB b L i lt := rfl
  rw [eA] at o3 o4 o5
  rw [eB] at o4 o5
  have hpl := t_pvl (b := b) (i := i) hL16
  have evs : t_pvs b L i = t_vals b L sv (t_id b L i sv) := by unfold t_pvs; rw [ev]
  by_cases q2 : t_pv b L i ≤ 2
  · refine Or.inl ⟨decide_eq_true q2, ?_, ?_, ?_⟩
    · rw [e1]; unfold t_pfi; rw [if_pos q2]
    · unfold x_k1; rw [if_neg (by omega)]
    · by_cases z0 : t_pv b L i = 0
      · obtain ⟨p, n, g1, g2, g3, g4, g5, g6, g7⟩ := t_go0 hL16 z0 o3
        have hp := (x_pmb g2).2
        refine ⟨p, n, (t_pro b L i).1, x_mtR n (t_pvs b L i), Or.inl ⟨by omega, ?_, ?_, ?_, g5, g6, g7, ?_, rfl⟩, g2, g4, ?_⟩
        · rw [h1 (by omega)]; exact g1
        · rw [h2 (by omega), ← g3]; unfold t_phd; rw [ev]
        · rw [(h7 (by omega)).1, h2 (by omega)]; unfold t_pro t_phd; rw [ev]
        · rw [evs]; exact (h6 (by omega)).2
        · unfold x_sC x_made
          rw [if_pos z0, g1, g3, nI_clamp (by omega), nI_clamp (by omega)]
      · by_cases z1 : t_pv b L i = 1
        · obtain ⟨k, n, g1, g2, g3, g4, g5, g6⟩ := t_go1 hL16 z1 o3
          refine ⟨0, n, k, x_grA n (t_pvs b L i), Or.inr (Or.inl ⟨by omega, rfl, ?_, ?_, g4, g3, g6, ?_, rfl⟩), Or.inl rfl, g5, ?_⟩
          · rw [h2 (by omega), ← g1]; unfold t_phd; rw [ev]
          · rw [evs]; exact (h6 (by omega)).1
          · rw [evs]; exact (h6 (by omega)).2
          · unfold x_sC x_made
            rw [if_neg z0, if_pos z1, g1, nI_clamp (by omega), show (t_pvs b L i).length / 2 = n by omega]
        · have z2 : t_pv b L i = 2 := by omega
          obtain ⟨k, n, g1, g2, g3, g4⟩ := t_go2 z2 o3
          refine ⟨0, n, k, x_biA n, Or.inr (Or.inr ⟨by omega, rfl, ?_, ?_, g3, rfl⟩), Or.inl rfl, g4, ?_⟩
          · rw [h2 (by omega), ← g1]; unfold t_phd; rw [ev]
          · rw [h3 (by omega), ← g2]; unfold t_pnx; rw [ev]
          · unfold x_sC x_made
            rw [if_neg z0, if_neg z1, if_pos z2, g1, g2, nI_clamp (by omega), nI_clamp (by omega)]
  · obtain ⟨⟨f, hf, ef⟩, g2, g3⟩ := t_fiN hV hrd (by omega)
    obtain ⟨A, hA⟩ := o1 (by omega)
    have hA' : lt f = some A := by rw [ef, x_ltn hf] at hA; exact hA
    have esA : x_sA b L i lt = A := by rw [← eA, hA]; rfl
    have hAn := hn f A hf hA'
    have efn : (t_pfi b L i).toNatClampNeg = f := by rw [ef, nI_clamp (by omega)]
    have eC : x_sC b L i lt = x_mk1 (t_pv b L i) (t_pvs b L i) A (x_sB b L i lt) := by
      unfold x_sC x_made
      rw [if_neg (by omega), if_neg (by omega), if_neg (by omega), esA]
    refine Or.inr ⟨decide_eq_false q2, f, A, hf, by rw [e1]; exact ef, hA', by rw [esA], by rw [efn], ?_⟩
    rw [eC, efn, esA, ev]
    by_cases z3 : sv = 3
    · refine Or.inl ⟨z3, ?_, ?_, ?_, ?_⟩
      · rw [z3]; decide
      · rw [e2]; exact g3 (by omega)
      · unfold x_k1; rw [if_neg (by omega)]
      · rw [z3]; rfl
    · by_cases z7 : sv = 7
      · refine Or.inr (Or.inl ⟨z7, ?_, ?_, ?_, ?_⟩)
        · rw [z7]; decide
        · rw [e2]; exact g3 (by omega)
        · unfold x_k1; rw [if_neg (by omega)]
        · rw [z7]; rfl
      · by_cases z6 : sv = 6
        · obtain ⟨f2, hf2, ef2⟩ := g2 (Or.inl z6)
          obtain ⟨B, hB⟩ := o2 (by omega)
          have hB' : lt f2 = some B := by rw [ef2, x_ltn hf2] at hB; exact hB
          have esB : x_sB b L i lt = B := by rw [← eB, hB]; rfl
          have := o4 (by omega)
          rw [esA, esB] at this
          refine Or.inr (Or.inr (Or.inl ⟨z6, by rw [z6]; decide, by unfold x_k1; rw [if_neg (by omega)], f2, B, hf2, by rw [e2]; exact ef2, hB', this.2, this.1, ?_⟩))
          rw [esB, z6]; rfl
        · have z45 : sv = 4 ∨ sv = 5 := by omega
          rw [esA] at o3
          obtain ⟨k1, k2, k3⟩ := t_go4 (by omega) hAn hpl o3
          refine Or.inr (Or.inr (Or.inr ⟨z45, decide_eq_true z45, ?_, ?_, ?_, k1, k2, ?_, ?_⟩))
          · rw [e2]; exact g3 (by omega)
          · rw [evs]; exact (h6 (by omega)).1
          · rw [evs]; exact (h6 (by omega)).2
          · unfold x_k1; rw [if_pos z45]
          · unfold x_mk1
            rw [if_neg z3, if_pos z45, if_neg z3, if_pos z45]
end CMH
