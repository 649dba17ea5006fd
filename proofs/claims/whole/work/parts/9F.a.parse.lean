/-! PURE, texts: what a statement tells -/
section TPR
variable {b : Nat → Int32} {L i v : Nat} {tg : Int32}
theorem t_w1 {p : Nat → Bool} {r : Bool × Nat} (h : (t_w b L p r).1 = true) : r.1 = true ∧ p r.2 = true ∧ t_w b L p r = (true, t_e b L r.2) := by
  obtain ⟨r1, r2⟩ := r
  cases r1 with
  | false => rw [t_wF rfl] at h; cases h
  | true =>
    by_cases hq : p r2 = true
    · exact ⟨rfl, hq, t_wT hq⟩
    · have hq' : p r2 = false := by
        cases hh : p r2 with
        | false => rfl
        | true => exact absurd hh hq
      rw [t_wN hq'] at h; cases h
theorem t_nmx (h : t_nm b L i = true) : ∃ x, x < 26 ∧ b (t_j b L i) - 97 = nI x := by
  obtain ⟨h1, h2, h3⟩ := t_nmb h
  have hl := t_wlet h2 (Nat.le_refl _) (by omega)
  unfold t_let at hl
  rw [Bool.or_eq_true] at hl
  have hc : b (t_j b L i) ≤ 122 := by
    rcases hl with z | z
    · exact (of_decide_eq_true z).2
    · have z := of_decide_eq_true z
      have e1 : (¬ b (t_j b L i) < 97) := h1
      rw [Int32.lt_iff_toInt_lt] at e1
      have e2 := z.2
      rw [Int32.lt_iff_toInt_lt] at e2
      exfalso
      have a1 : (97 : Int32).toInt = 97 := by decide
      have a2 : (90 : Int32).toInt = 90 := by decide
      omega
  rw [Int32.le_iff_toInt_le] at hc
  rw [Int32.lt_iff_toInt_lt] at h1
  have a1 : (97 : Int32).toInt = 97 := by decide
  have a2 : (122 : Int32).toInt = 122 := by decide
  obtain ⟨c, hc1, hc2⟩ := nI_of (x := b (t_j b L i)) (by rw [Int32.lt_iff_toInt_lt]; have h00 : (0 : Int32).toInt = 0 := (by decide); omega)
  have hct : (nI c).toInt = c := nI_toInt hc1
  rw [hc2, hct] at hc h1
  refine ⟨c - 97, by omega, ?_⟩
  rw [hc2]
  exact nI_subn (show 97 ≤ c by omega)
/-- the pieces of a statement that is right -/
theorem t_stA (hV : s_V b L i v tg) (h : (t_st b L i).1 = true) : t_rv b L i = (true, t_ia b L i) ∧ t_rf b L v (true, t_ia b L i) = (true, t_ib b L i v) ∧ t_rh b L v (true, t_ib b L i v) = (true, t_ic b L i v) ∧ t_rn b L v (true, t_ic b L i v) = (true, t_id b L i v) ∧ (t_rt b L v (true, t_id b L i v)).1 = true ∧ t_k b L (t_rt b L v (true, t_id b L i v)).2 = 59 ∧ t_st b L i = (true, t_e b L (t_rt b L v (true, t_id b L i v)).2) := by
  have hrv : (t_rv b L i).1 = true := by
    cases hq : (t_rv b L i).1 with
    | true => rfl
    | false => rw [t_rvF hq, hq] at h; cases h
  have est := t_stv hrv hV
  rw [est] at h
  obtain ⟨w1, w2, w3⟩ := t_w1 h
  have h2 : (t_rf b L v (true, t_ia b L i)).1 = true := by
    cases hq : (t_rf b L v (true, t_ia b L i)).1 with
    | true => rfl
    | false => rw [t_rhF hq, t_rnF hq, t_rtF hq, hq] at w1; cases w1
  have e2 : t_rf b L v (true, t_ia b L i) = (true, t_ib b L i v) := t_p2 h2
  rw [e2] at w1 w2 w3 est
  have h3 : (t_rh b L v (true, t_ib b L i v)).1 = true := by
    cases hq : (t_rh b L v (true, t_ib b L i v)).1 with
    | true => rfl
    | false => rw [t_rnF hq, t_rtF hq, hq] at w1; cases w1
  have e3 : t_rh b L v (true, t_ib b L i v) = (true, t_ic b L i v) := t_p2 h3
  rw [e3] at w1 w2 w3 est
  have h4 : (t_rn b L v (true, t_ic b L i v)).1 = true := by
    cases hq : (t_rn b L v (true, t_ic b L i v)).1 with
    | true => rfl
    | false => rw [t_rtF hq, hq] at w1; cases w1
  have e4 : t_rn b L v (true, t_ic b L i v) = (true, t_id b L i v) := t_p2 h4
  rw [e4] at w1 w2 w3 est
  exact ⟨t_rvT hrv, e2, e3, e4, w1, of_decide_eq_true w2, by rw [est]; exact w3⟩
/-- the letters that it names -/
theorem t_stN (hV : s_V b L i v tg) (h : (t_st b L i).1 = true) (h3 : 2 < v) : t_nm b L (t_ic b L i v) = true ∧ ((v = 6 ∨ v = 16 ∨ v = 19) → t_nm b L (t_e b L (t_ic b L i v)) = true) := by
  have h4 := (t_stA hV h).2.2.2.1
  have h5 : (t_rn b L v (true, t_ic b L i v)).1 = true := by rw [h4]
  unfold t_rn at h5
  rw [if_neg (by omega)] at h5
  by_cases q : v = 6 ∨ v = 16 ∨ v = 19
  · rw [if_pos q] at h5
    obtain ⟨w1, w2, _⟩ := t_w1 h5
    obtain ⟨u1, u2, u3⟩ := t_w1 w1
    refine ⟨u2, fun _ => ?_⟩
    rw [u3] at w2; exact w2
  · rw [if_neg q] at h5
    obtain ⟨w1, w2, _⟩ := t_w1 h5
    exact ⟨w2, fun z => absurd z q⟩
theorem t_stT (hV : s_V b L i v tg) (h : v < 8) : ∃ x, x < 26 ∧ tg = nI x := by
  obtain ⟨h1, h2⟩ := hV
  by_cases q : t_nm b L i = true
  · rw [if_pos q] at h2
    obtain ⟨x, hx, e⟩ := t_nmx q
    exact ⟨x, hx, by rw [h2.2.1, e]⟩
  · rw [if_neg q] at h2
    omega
/-- the verb, the target, the letters, numbers -/
def t_pv (b : Nat → Int32) (L i : Nat) : Nat := if t_nm b L i = true then (t_vb b L (t_iw b L i) 0 8).toNatClampNeg else 8 + (t_vb b L i 8 13).toNatClampNeg
def t_ptg (b : Nat → Int32) (L i : Nat) : Nat := (b (t_j b L i) - 97).toNatClampNeg
def t_pfi (b : Nat → Int32) (L i : Nat) : Int32 := if t_pv b L i ≤ 2 then -1 else b (t_j b L (t_ic b L i (t_pv b L i))) - 97
def t_pse (b : Nat → Int32) (L i : Nat) : Int32 := if t_pv b L i = 6 ∨ t_pv b L i = 16 ∨ t_pv b L i = 19 then b (t_j b L (t_e b L (t_ic b L i (t_pv b L i)))) - 97 else -1
def t_pfd (b : Nat → Int32) (L i : Nat) : Int32 := t_fdt b L (t_ia b L i)
def t_phd (b : Nat → Int32) (L i : Nat) : Int32 := t_v b L (t_ib b L i (t_pv b L i))
def t_pnx (b : Nat → Int32) (L i : Nat) : Int32 := t_v b L (t_e b L (t_ib b L i (t_pv b L i)))
def t_pvs (b : Nat → Int32) (L i : Nat) : List Int32 := t_vals b L (t_pv b L i) (t_id b L i (t_pv b L i))
def t_pro (b : Nat → Int32) (L i : Nat) : Nat × Bool := t_rows (t_phd b L i) (t_fo (t_phd b L i) (t_it b L true L (t_e b L (t_id b L i (t_pv b L i)))) 0 0 true)
/-- not right, of n elements -/
def t_pbad (b : Nat → Int32) (L i n : Nat) : Bool := t_bad (t_pv b L i) (t_pfd b L i) (t_phd b L i) (t_pnx b L i) (t_pvs b L i) (nI (t_pro b L i).1) (if (t_pro b L i).2 = true then 1 else 0) (nI n)
theorem t_pvE (hV : s_V b L i v tg) : t_pv b L i = v := by
  obtain ⟨h1, h2⟩ := hV
  unfold t_pv
  by_cases q : t_nm b L i = true
  · rw [if_pos q] at h2 ⊢
    rw [h2.2.2, nI_clamp (by omega)]
  · rw [if_neg q] at h2 ⊢
    rw [h2.2.2, nI_clamp (by omega)]
    omega
theorem t_badE {fi se fd hd nx mn rw ev : Int32} {gn : Nat → Int32} (h : s_ok b L i v tg fi se fd hd nx mn rw ev gn) (n : Nat) : t_bad v fd hd nx (t_pvs b L i) rw ev (nI n) = t_pbad b L i n := by
  obtain ⟨hV, h1, h2, h3, h4, h5, h6, h7⟩ := h
  have e := t_pvE hV
  unfold t_pbad
  rw [e]
  by_cases q0 : v = 0
  · obtain ⟨r1, r2⟩ := h7 q0
    have e1 : fd = t_pfd b L i := h1 q0
    have e2 : hd = t_phd b L i := by rw [h2 (by omega)]; unfold t_phd; rw [e]
    have e3 : rw = nI (t_pro b L i).1 := by rw [r1, e2]; unfold t_pro; rw [e]
    have e4 : ev = if (t_pro b L i).2 = true then 1 else 0 := by rw [r2, e2]; unfold t_pro; rw [e]
    unfold t_bad
    rw [if_pos q0, if_pos q0, e1, e2, e3, e4]
  · by_cases q1 : v = 1
    · have e2 : hd = t_phd b L i := by rw [h2 (by omega)]; unfold t_phd; rw [e]
      unfold t_bad
      rw [if_neg q0, if_pos q1, if_neg q0, if_pos q1, e2]
    · by_cases q2 : v = 2
      · have e2 : hd = t_phd b L i := by rw [h2 (by omega)]; unfold t_phd; rw [e]
        have e3 : nx = t_pnx b L i := by rw [h3 q2]; unfold t_pnx; rw [e]
        unfold t_bad
        rw [if_neg q0, if_neg q1, if_pos q2, if_neg q0, if_neg q1, if_pos q2, e2, e3]
      · unfold t_bad
        rw [if_neg q0, if_neg q1, if_neg q2, if_neg q0, if_neg q1, if_neg q2]
end TPR
