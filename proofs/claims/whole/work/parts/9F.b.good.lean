/-! PURE, texts: the numbers of a statement that makes -/
theorem t_foL {n : Nat} (hn : n ≤ 12) : ∀ (l : List (Option Int32)) (c d : Nat) (e : Bool), c + l.length < 2 ^ 31 → (t_fo (nI n) l c d e).2.2 = true → e = true ∧ (t_fo (nI n) l c d e).1 + (t_fo (nI n) l c d e).2.1 * n = c + d * n + (t_vl l).length
  | [], c, d, e, _, h => ⟨h, rfl⟩
  | some x :: l, c, d, e, hc, h => by
    have ih := t_foL hn l (c + 1) d e (by rw [List.length_cons] at hc; omega) h
    refine ⟨ih.1, ?_⟩
    show (t_fo (nI n) l (c + 1) d e).1 + (t_fo (nI n) l (c + 1) d e).2.1 * n = c + d * n + ((t_vl l).length + 1)
    rw [ih.2]; omega
  | none :: l, c, d, e, hc, h => by
    have ih := t_foL hn l 0 (d + 1) (e && decide (nI c = nI n)) (by rw [List.length_cons] at hc; omega) h
    have h1 := Bool.and_eq_true_iff.1 ih.1
    have h2 : c = n := (nI_eq (by omega) (by omega)).1 (of_decide_eq_true h1.2)
    refine ⟨h1.1, ?_⟩
    show (t_fo (nI n) l 0 (d + 1) (e && decide (nI c = nI n))).1 + (t_fo (nI n) l 0 (d + 1) (e && decide (nI c = nI n))).2.1 * n = c + d * n + (t_vl l).length
    rw [ih.2, Nat.add_mul, h2]; omega
theorem t_foR {hd : Int32} : ∀ (l : List (Option Int32)) (c d : Nat) (e : Bool), (t_fo hd l c d e).1 ≤ c + l.length ∧ (t_fo hd l c d e).2.1 ≤ d + l.length
  | [], c, d, e => ⟨Nat.le_refl _, Nat.le_refl _⟩
  | some x :: l, c, d, e => by
    have := t_foR (hd := hd) l (c + 1) d e
    rw [List.length_cons]
    exact ⟨by show (t_fo hd l (c + 1) d e).1 ≤ _; omega, by show (t_fo hd l (c + 1) d e).2.1 ≤ _; omega⟩
  | none :: l, c, d, e => by
    have := t_foR (hd := hd) l 0 (d + 1) (e && decide (nI c = hd))
    rw [List.length_cons]
    exact ⟨by show (t_fo hd l 0 (d + 1) (e && decide (nI c = hd))).1 ≤ _; omega, by show (t_fo hd l 0 (d + 1) (e && decide (nI c = hd))).2.1 ≤ _; omega⟩
theorem t_rowL {n : Nat} (hn : n ≤ 12) (l : List (Option Int32)) (hl : l.length < 2 ^ 30) (h : (t_rows (nI n) (t_fo (nI n) l 0 0 true)).2 = true) : (t_vl l).length = (t_rows (nI n) (t_fo (nI n) l 0 0 true)).1 * n := by
  have hr := t_foR (hd := nI n) l 0 0 true
  have hL := t_foL hn l 0 0 true (by omega)
  unfold t_rows at h ⊢
  generalize t_fo (nI n) l 0 0 true = x at *
  by_cases q : 0 < x.2.1 ∨ 0 < x.1
  · rw [if_pos q] at h ⊢
    have h1 := Bool.and_eq_true_iff.1 h
    have h2 : x.1 = n := (nI_eq (by omega) (by omega)).1 (of_decide_eq_true h1.2)
    have := (hL h1.1).2
    rw [Nat.add_mul, Nat.one_mul]
    omega
  · rw [if_neg q] at h ⊢
    have := (hL h).2
    have e1 : x.2.1 = 0 := by omega
    rw [e1, Nat.zero_mul] at this ⊢
    omega
theorem t_itl {b : Nat → Int32} {L : Nat} {cm : Bool} : ∀ (u i : Nat), (t_it b L cm u i).length ≤ u
  | 0, _ => Nat.le_refl 0
  | u + 1, i => by
    unfold t_it
    split
    · rw [List.length_cons]; have := t_itl (b := b) (L := L) (cm := cm) u (t_e b L i); omega
    · split
      · rw [List.length_cons]; have := t_itl (b := b) (L := L) (cm := cm) u (t_e b L i); omega
      · exact Nat.zero_le _
theorem t_evl {b : Nat → Int32} {L : Nat} : ∀ (u i : Nat), ∃ n, (t_ev b L u i).length = 2 * n ∧ n ≤ u
  | 0, _ => ⟨0, rfl, Nat.le_refl 0⟩
  | u + 1, i => by
    unfold t_ev
    split
    · obtain ⟨n, h1, h2⟩ := t_evl (b := b) (L := L) u (t_e b L (t_e b L (t_e b L i)))
      exact ⟨n + 1, by rw [List.length_cons, List.length_cons, h1]; omega, by omega⟩
    · exact ⟨1, rfl, by omega⟩
theorem t_inI {x : Int32} {k : Nat} (hk : k < 2 ^ 31) (h1 : ¬ x < 0) (h2 : ¬ nI k < x) : ∃ n, x = nI n ∧ n ≤ k := by
  obtain ⟨c, hc, e⟩ := nI_of h1
  rw [e] at h2
  refine ⟨c, e, Classical.byContradiction (fun w => h2 ?_)⟩
  exact (nI_ltI hk hc).2 (by omega)
theorem b_orF {a b : Bool} (h : (a || b) = false) : a = false ∧ b = false := by
  cases a <;> cases b <;> first | exact ⟨rfl, rfl⟩ | cases h
section TGO
variable {b : Nat → Int32} {L i v n0 : Nat}
theorem t_fdp {j : Nat} (h : ¬ t_fdt b L j = -1) : ∃ p, t_fdt b L j = nI p ∧ x_pm p := by
  unfold t_fdt at *
  by_cases q : t_k b L j = 1
  · rw [if_pos q]; exact ⟨0, rfl, Or.inl rfl⟩
  · rw [if_neg q] at h ⊢
    by_cases q2 : t_prm (t_v b L j) = true
    · rw [if_pos q2]
      obtain ⟨p, h1, h2⟩ := x_hex q2
      exact ⟨p, h1, Or.inr h2⟩
    · rw [if_neg q2] at h; exact absurd rfl h
/-- matrix -/
theorem t_go0 (hL : L ≤ 16384) (hv : t_pv b L i = 0) (h : t_pbad b L i n0 = false) : ∃ p n, t_pfd b L i = nI p ∧ x_pm p ∧ t_phd b L i = nI n ∧ n ≤ 12 ∧ (t_pro b L i).1 ≤ 12 ∧ (t_pvs b L i).length = (t_pro b L i).1 * n ∧ (∀ x, x ∈ t_pvs b L i → -999 ≤ x.toInt ∧ x.toInt ≤ 999) := by
  unfold t_pbad t_bad at h
  rw [if_pos hv] at h
  obtain ⟨h, h5⟩ := b_orF h
  obtain ⟨h, h4⟩ := b_orF h
  obtain ⟨h, h3⟩ := b_orF h
  obtain ⟨h1, h2⟩ := b_orF h
  obtain ⟨p, e1, hp⟩ := t_fdp (of_decide_eq_false h1)
  obtain ⟨n, e2, hn⟩ := t_inI (k := 12) (by decide) (of_decide_eq_false h2) (of_decide_eq_false h3)
  have evs : t_pvs b L i = t_vl (t_it b L true L (t_e b L (t_id b L i (t_pv b L i)))) := by
    unfold t_pvs t_vals
    rw [if_neg (by omega), if_pos hv]
  have hpro : t_pro b L i = t_rows (nI n) (t_fo (nI n) (t_it b L true L (t_e b L (t_id b L i (t_pv b L i)))) 0 0 true) := by
    unfold t_pro; rw [e2]
  have hil := t_itl (b := b) (L := L) (cm := true) L (t_e b L (t_id b L i (t_pv b L i)))
  have hev : (t_pro b L i).2 = true := by
    have h5 := of_decide_eq_false h5
    cases hh : (t_pro b L i).2 with
    | true => rfl
    | false => rw [hh] at h5; exact absurd rfl h5
  have hrl : (t_pro b L i).1 < 2 ^ 31 := by
    rw [hpro]
    have := t_foR (hd := nI n) (t_it b L true L (t_e b L (t_id b L i (t_pv b L i)))) 0 0 true
    unfold t_rows
    split
    · show _ + 1 < _; omega
    · show (t_fo (nI n) (t_it b L true L (t_e b L (t_id b L i (t_pv b L i)))) 0 0 true).2.1 < _; omega
  refine ⟨p, n, e1, hp, e2, hn, ?_, ?_, ?_⟩
  · have h4 := of_decide_eq_false h4
    exact Classical.byContradiction (fun w => h4 ((nI_ltI (a := 12) (by decide) hrl).2 (by omega)))
  · rw [evs, hpro]
    rw [hpro] at hev
    exact t_rowL hn _ (by omega) hev
  · rw [evs]; exact t_vlb L _
/-- graph -/
theorem t_go1 (hL : L ≤ 16384) (hv : t_pv b L i = 1) (h : t_pbad b L i n0 = false) : ∃ k n, t_phd b L i = nI k ∧ 1 ≤ k ∧ k ≤ 13 ∧ (t_pvs b L i).length = 2 * n ∧ n ≤ 12 ∧ t_wi (t_pvs b L i) (nI k) = true := by
  unfold t_pbad t_bad at h
  rw [if_neg (by omega), if_pos hv] at h
  obtain ⟨h, h4⟩ := b_orF h
  obtain ⟨h, h3⟩ := b_orF h
  obtain ⟨h1, h2⟩ := b_orF h
  have h1 := of_decide_eq_false h1
  obtain ⟨k, e2, hk⟩ := t_inI (x := t_phd b L i) (k := 13) (by decide) (fun w => h1 (by
    rw [Int32.lt_iff_toInt_lt] at w ⊢
    have a0 : (0 : Int32).toInt = 0 := (by decide)
    have a1 : (1 : Int32).toInt = 1 := (by decide)
    omega)) (of_decide_eq_false h2)
  have evs : ∃ n, (t_pvs b L i).length = 2 * n := by
    unfold t_pvs t_vals
    rw [if_pos hv]
    split
    · obtain ⟨n, h1, _⟩ := t_evl (b := b) (L := L) (L + 1) (t_e b L (t_id b L i (t_pv b L i)))
      exact ⟨n, h1⟩
    · exact ⟨0, rfl⟩
  obtain ⟨n, en⟩ := evs
  have h3 := of_decide_eq_false h3
  refine ⟨k, n, e2, ?_, hk, en, by omega, ?_⟩
  · rw [e2] at h1
    exact Classical.byContradiction (fun w => h1 ((nI_ltI (b := 1) (by omega) (by decide)).2 (by omega)))
  · rw [e2] at h4
    cases hh : t_wi (t_pvs b L i) (nI k) with
    | true => rfl
    | false => rw [hh] at h4; cases h4
/-- uniform -/
theorem t_go2 (hv : t_pv b L i = 2) (h : t_pbad b L i n0 = false) : ∃ k n, t_phd b L i = nI k ∧ t_pnx b L i = nI n ∧ k ≤ n ∧ n ≤ 12 := by
  unfold t_pbad t_bad at h
  rw [if_neg (by omega), if_neg (by omega), if_pos hv] at h
  obtain ⟨h, h4⟩ := b_orF h
  obtain ⟨h, h3⟩ := b_orF h
  obtain ⟨h1, h2⟩ := b_orF h
  obtain ⟨n, e1, hn⟩ := t_inI (k := 12) (by decide) (of_decide_eq_false h1) (of_decide_eq_false h2)
  obtain ⟨k, hk, e2⟩ := nI_of (of_decide_eq_false h3)
  refine ⟨k, n, e2, e1, ?_, hn⟩
  rw [e1, e2] at h4
  have h4' : decide (nI k ≤ nI n) = true := by
    cases hh : decide (nI k ≤ nI n) with
    | true => rfl
    | false => rw [hh] at h4; cases h4
  exact Classical.byContradiction (fun w => (nI_ge (show n < k by omega) hk) (of_decide_eq_true h4'))
/-- delete, contract -/
theorem t_go4 (hv : t_pv b L i = 4 ∨ t_pv b L i = 5) (hn : n0 ≤ 12) (hl : (t_pvs b L i).length < 2 ^ 31) (h : t_pbad b L i n0 = false) : (t_pvs b L i).length ≤ n0 ∧ t_wi (t_pvs b L i) (nI n0) = true ∧ t_ri (t_pvs b L i) = true := by
  unfold t_pbad t_bad at h
  rw [if_neg (by omega), if_neg (by omega), if_neg (by omega), if_pos hv] at h
  obtain ⟨h, h3⟩ := b_orF h
  obtain ⟨h1, h2⟩ := b_orF h
  refine ⟨?_, ?_, ?_⟩
  · have h1 := of_decide_eq_false h1
    exact Classical.byContradiction (fun w => h1 ((nI_ltI (by omega) hl).2 (by omega)))
  · cases hh : t_wi (t_pvs b L i) (nI n0) with
    | true => rfl
    | false => rw [hh] at h2; cases h2
  · cases hh : t_ri (t_pvs b L i) with
    | true => rfl
    | false => rw [hh] at h3; cases h3
theorem t_go8 (hv : t_pv b L i = 8) (hn : n0 ≤ 12) (hl : (t_pvs b L i).length < 2 ^ 31) (h : t_pbad b L i n0 = false) : (t_pvs b L i).length = n0 := by
  unfold t_pbad t_bad at h
  rw [if_neg (by omega), if_neg (by omega), if_neg (by omega), if_neg (by omega), if_pos hv] at h
  have : decide (nI (t_pvs b L i).length = nI n0) = true := by
    cases hh : decide (nI (t_pvs b L i).length = nI n0) with
    | true => rfl
    | false => rw [hh] at h; cases h
  exact (nI_eq hl (by omega)).1 (of_decide_eq_true this)
theorem t_vll : ∀ l : List (Option Int32), (t_vl l).length ≤ l.length
  | [] => Nat.le_refl 0
  | some x :: l => by have := t_vll l; show (t_vl l).length + 1 ≤ l.length + 1; omega
  | none :: l => by have := t_vll l; show (t_vl l).length ≤ l.length + 1; omega
theorem t_pvl (hL : L ≤ 16384) : (t_pvs b L i).length < 2 ^ 31 := by
  unfold t_pvs t_vals
  have h1 := fun cm => t_vll (t_it b L cm L (t_e b L (t_id b L i (t_pv b L i))))
  have h2 := fun cm => t_itl (b := b) (L := L) (cm := cm) L (t_e b L (t_id b L i (t_pv b L i)))
  have a1 := h1 true
  have a2 := h1 false
  have a3 := h2 true
  have a4 := h2 false
  split
  · split
    · obtain ⟨n, h1, h2⟩ := t_evl (b := b) (L := L) (L + 1) (t_e b L (t_id b L i (t_pv b L i)))
      omega
    · exact Nat.two_pow_pos 31
  · split <;> omega
end TGO
