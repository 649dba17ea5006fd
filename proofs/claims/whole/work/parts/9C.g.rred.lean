/-! PURE, the reference: reduce over Q, whole -/
section RRQ
variable {nv : Nat → px_NV} {iv gs gp : Nat → Int32} {n R r c B : Nat} {A M : Nat → Nat → Int} {piv : Nat → Nat}
/-- rows are 0 before their pivots -/
def x_pf (r : Nat) (piv : Nat → Nat) (M : Nat → Nat → Int) : Prop := ∀ i, i < r → ∀ j, j < piv i → M i j = 0
theorem x_pfP {i0 : Nat} (hv : x_pv n R r c piv M) (hf : x_pf r piv M) (hc : c < n) (hi1 : r ≤ i0) (hi2 : i0 < R) (hne : ¬ M i0 c = 0) : x_pf (r + 1) (fun x => if x = r then c else piv x) (x_elk 0 n (x_swr M i0 r) r c R) := by
  obtain ⟨v1, v2, v3, v4, v5, v6, v7⟩ := hv
  have hr : r < R := by omega
  have hpr : x_pi i0 r r = i0 := by
    unfold x_pi
    by_cases q : r = i0
    · rw [if_pos q]; exact q
    · rw [if_neg q, if_pos rfl]
  have er : x_swr M i0 r r = M i0 := by rw [x_swe, hpr]
  have hN : ∀ i, i < R → x_z0 n (x_swr M i0 r i) := fun i hi => by rw [x_swe]; exact v4 _ (x_pil hi2 hr hi)
  intro i hi j hj
  have hj : j < if i = r then c else piv i := hj
  by_cases q : i = r
  · rw [if_pos q] at hj
    have : x_elk 0 n (x_swr M i0 r) r c R i = M i0 := by unfold x_elk; rw [if_neg (fun y => y.2.1 q), q, er]
    rw [this]; exact v7 i0 hi1 hi2 j hj
  · rw [if_neg q] at hj
    have hir : i < r := by omega
    have ei : x_swr M i0 r i = M i := by unfold x_swr; rw [if_neg (by omega), if_neg (by omega)]
    have z1 : M i j = 0 := hf i hir j hj
    have z2 : M i0 j = 0 := v7 i0 hi1 hi2 j (by have := (v5 i hir).1; omega)
    unfold x_elk
    split
    · rw [x_tk0 (hN i (by omega)) (hN r hr), ei, er, z1, z2]; grind
    · rw [ei]; exact z1
/-- rows as reduce leaves them: of the space of A -/
def x_RR (n R r : Nat) (piv : Nat → Nat) (A K : Nat → Nat → Int) : Prop := r ≤ R ∧ r ≤ n ∧ (∀ i, i < r → piv i < n ∧ 0 < K i (piv i)) ∧ (∀ i i', i < r → i' < r → i' ≠ i → K i' (piv i) = 0) ∧ (∀ i i', i < i' → i' < r → piv i < piv i') ∧ (∀ i, i < r → ∀ j, j < piv i → K i j = 0) ∧ (∀ i, i < r → x_z0 n (K i)) ∧ (∀ i, i < r → x_gc (K i) n = 1) ∧ (∀ P : (Nat → Int) → Prop, x_cl P → ((∀ i, i < r → P (K i)) ↔ ∀ i, i < R → P (A i)))
theorem x_RRm (hv : x_pv n R r n piv M) (hf : x_pf r piv M) (hs : ∀ P : (Nat → Int) → Prop, x_cl P → ((∀ i, i < R → P (M i)) ↔ ∀ i, i < R → P (A i))) : x_RR n R r piv A (x_all2 0 n r piv M) := by
  obtain ⟨a1, a2, a3, a4⟩ := x_allV hv
  have e : ∀ i, i < r → x_all2 0 n r piv M i = x_stl2 0 n (M i) (piv i) := fun i hi => by unfold x_all2; rw [if_pos hi]
  refine ⟨hv.1, hv.2.1, a1, a2, hv.2.2.2.2.2.1, fun i hi j hj => ?_, a4, fun i hi => ?_, fun P hP => (x_allP hP hv).trans (hs P hP)⟩
  · rw [e i hi, x_stl0 (hv.2.2.2.1 i (by have := hv.1; omega))]
    exact hf i hi j hj
  · have hz := hv.2.2.2.1 i (by have := hv.1; omega)
    obtain ⟨s, hs, he⟩ := x_stlm (c := piv i) hz
    have e1 : x_gc (x_all2 0 n r piv M i) n = x_gc (x_sho n (M i)) n := x_gca n (fun j hj => by
      rw [e i hi, he, Int.natAbs_mul]
      rcases hs with q | q <;> rw [q] <;> exact Nat.one_mul _)
    rw [e1]
    rcases x_shog (v := M i) (n := n) with q | q
    · exact q
    · exact absurd ((x_sho0 hz).1 (q (piv i) (a1 i hi).1)) (hv.2.2.2.2.1 i hi).2.1
theorem x_pv0 {piv0 : Nat → Nat} (hz : ∀ i, i < R → x_z0 n (A i)) : x_pv n R 0 0 piv0 A := ⟨Nat.zero_le _, Nat.le_refl 0, Nat.zero_le _, hz, fun i h => absurd h (Nat.not_lt_zero i), fun i i' _ h => absurd h (Nat.not_lt_zero i'), fun i _ _ j h => absurd h (Nat.not_lt_zero j)⟩
/-- reduce over Q, where something (Dat) keeps the numbers small -/
theorem r_redQ {post : (Nat → Int32) → (Nat → Int32) → (Nat → Int32) → (Nat → px_NV) → Prop} {Dat : Nat → (Nat → Nat) → (Nat → Nat → Int) → Prop} (hiv : iv 12 = 0) (hiv1 : iv 11 = nI n) (hiv0 : iv 10 = nI R) (hR : R ≤ 13) (hn : n ≤ 12) (hX : r_X 0 n R gs nv A) (hz : ∀ i, i < R → x_z0 n (A i)) (hB : B < 65536 ^ 79) (hb : ∀ i, i < R → ∀ j, j < n → (A i j).natAbs ≤ B) (hD0 : ∀ piv0, Dat 0 piv0 A)
    (hDs : ∀ r c piv M i, x_pv n R r c piv M → Dat r piv M → c < n → r ≤ i → i < R → ¬ M i c = 0 → Dat (r + 1) (fun x => if x = r then c else piv x) (x_elk 0 n (x_swr M i r) r c R))
    (hDb : ∀ r c piv M, x_pv n R r c piv M → Dat r piv M → ∀ i, i < R → (x_gc (M i) n = 1 ∨ ∀ j, j < n → M i j = 0) → ∀ j, j < n → (M i j).natAbs ≤ B)
    (h : ∀ r piv K gs' gp' nv', x_RR n R r piv A K → r_X 0 n r gs' nv' K → (∀ i, i < r → gp' i = nI (piv i)) → post (va_up iv 10 (nI r)) gs' gp' nv') : w55_wp post iv gs gp nv := by
  refine r_reduce (p := 0) (n := n) (R := R) (M := A) (Inv := fun r c piv M => x_pv n R r c piv M ∧ x_pf r piv M ∧ (∀ P : (Nat → Int) → Prop, x_cl P → ((∀ i, i < R → P (M i)) ↔ ∀ i, i < R → P (A i))) ∧ Dat r piv M ∧ ∀ i, i < R → ∀ j, j < n → (M i j).natAbs ≤ B) (piv0 := fun _ => 0) (Or.inl rfl) hiv hiv1 hiv0 hR hn hX ⟨x_pv0 hz, fun i hi => absurd hi (Nat.not_lt_zero i), fun P _ => Iff.rfl, hD0 _, hb⟩ (fun e => absurd rfl e) (fun r c piv M hI => ?_) (fun r c piv M hI hc hzz => ?_) (fun r c piv M i hI hc hi1 hi2 hne _ => ?_) (fun r piv M gs' gp' nv' hI hX' hg => ?_)
  · obtain ⟨i1, i2, i3, i4, i5⟩ := hI
    exact ⟨i1.1, fun _ i hi j hj => Nat.lt_of_le_of_lt (i5 i hi j hj) hB, fun i hi => ⟨by have := (i1.2.2.2.2.1 i hi).1; have := i1.2.2.1; omega, (i1.2.2.2.2.1 i hi).2.1⟩⟩
  · obtain ⟨i1, i2, i3, i4, i5⟩ := hI
    exact ⟨x_pvS i1 hc hzz, i2, i3, i4, i5⟩
  · obtain ⟨i1, i2, i3, i4, i5⟩ := hI
    have hr : r < R := by omega
    have hpv' := x_pvP i1 hc hi1 hi2 hne
    have hD' := hDs r c piv M i i1 i4 hc hi1 hi2 hne
    have hN : ∀ i', i' < R → x_z0 n (x_swr M i r i') := fun i' q => by rw [x_swe]; exact i1.2.2.2.1 _ (x_pil hi2 hr q)
    have hpr : x_pi i r r = i := by
      unfold x_pi
      by_cases q : r = i
      · rw [if_pos q]; exact q
      · rw [if_neg q, if_pos rfl]
    refine ⟨hpv', x_pfP i1 i2 hc hi1 hi2 hne, fun P hP => ?_, hD', x_elb hN (fun i' q1 j q2 => by rw [x_swe]; exact i5 _ (x_pil hi2 hr q1) j q2) (fun i' q => hDb _ _ _ _ hpv' hD' i' q)⟩
    rw [x_elkP hP hr hN (by rw [x_swe, hpr]; exact hne), x_swrP hi2 hr]
    exact i3 P hP
  · obtain ⟨i1, i2, i3, i4, i5⟩ := hI
    exact h r piv _ gs' gp' nv' (x_RRm i1 i2 i3) hX' hg
theorem x_142 : (2 : Nat) ^ 142 ≤ 2 ^ 1000 := by decide +kernel
/-- rows of a space with a tame form -/
theorem r_redL {post : (Nat → Int32) → (Nat → Int32) → (Nat → Int32) → (Nat → px_NV) → Prop} {n0 : Nat} {F : Nat → Int} {k : Nat → Nat} (hiv : iv 12 = 0) (hiv1 : iv 11 = nI n) (hiv0 : iv 10 = nI R) (hR : R ≤ 13) (hn : n ≤ 12) (hX : r_X 0 n R gs nv A) (hz : ∀ i, i < R → x_z0 n (A i)) (hn0 : n0 ≤ 12) (hk : ∀ j, j < n → k j < n0) (ht : x_ta (2 ^ 142) n0 F) (hb : ∀ i, i < R → ∀ j, j < n → (A i j).natAbs ≤ 2 ^ 1000) (hD : x_dl n R F k A)
    (h : ∀ r piv K gs' gp' nv', x_RR n R r piv A K → r_X 0 n r gs' nv' K → (∀ i, i < r → gp' i = nI (piv i)) → post (va_up iv 10 (nI r)) gs' gp' nv') : w55_wp post iv gs gp nv := by
  refine r_redQ (B := 2 ^ 1000) (Dat := fun _ _ M => x_dl n R F k M) hiv hiv1 hiv0 hR hn hX hz (by decide +kernel) hb (fun _ => hD) (fun r c piv M i hv hM hc hi1 hi2 hne => ?_) (fun r c piv M hv hM i hi hg j hj => Nat.le_trans (x_dlB hn0 ht hk hM hi hg j hj) x_142) h
  have hr : r < R := by omega
  have hpr : x_pi i r r = i := by
    unfold x_pi
    by_cases q : r = i
    · rw [if_pos q]; exact q
    · rw [if_neg q, if_pos rfl]
  exact x_dlE hr hc (by have := hk c hc; omega) (fun i' q => by rw [x_swe]; exact hv.2.2.2.1 _ (x_pil hi2 hr q)) (by rw [x_swe, hpr]; exact hne) (x_dlW hi2 hr hM)
/-- a matrix of small numbers -/
theorem r_redW {post : (Nat → Int32) → (Nat → Int32) → (Nat → Int32) → (Nat → px_NV) → Prop} (hiv : iv 12 = 0) (hiv1 : iv 11 = nI n) (hiv0 : iv 10 = nI R) (hR : R ≤ 13) (hn : n ≤ 12) (hX : r_X 0 n R gs nv A) (hz : ∀ i, i < R → x_z0 n (A i)) (hb : ∀ i, i < R → ∀ j, j < 12 → (A i j).natAbs ≤ 2 ^ 39)
    (h : ∀ r piv K gs' gp' nv', x_RR n R r piv A K → r_X 0 n r gs' nv' K → (∀ i, i < r → gp' i = nI (piv i)) → post (va_up iv 10 (nI r)) gs' gp' nv') : w55_wp post iv gs gp nv := by
  refine r_redQ (B := (12 * 2 ^ 39) ^ 13) (Dat := fun r piv M => x_dw R r A piv M) hiv hiv1 hiv0 hR hn hX hz (by decide +kernel) (fun i hi j hj => Nat.le_trans (hb i hi j (by omega)) (by decide +kernel)) (fun _ => x_dw0) (fun r c piv M i hv hM hc hi1 hi2 hne => x_dwP hv hn hc hi1 hi2 hne hM) (fun r c piv M hv hM i hi hg => x_dwB hv hn hR (by decide) hb hM hi hg) h
end RRQ
