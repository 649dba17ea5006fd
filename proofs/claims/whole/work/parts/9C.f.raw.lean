/-! PURE: over Q, reduce of a matrix of small numbers: the numbers stay small -/
section RDW
variable {n R r c i0 b : Nat} {A M N : Nat → Nat → Int} {s : Nat → Nat} {T : Nat}
/-- a row of the space of r rows and one more, 0 where the r rows have a minor, names a minor of all -/
theorem x_dwD {p : Nat → Nat → Int} {a v : Nat → Int} (hD : ¬ x_W p r T = 0) (hv : ∀ P : (Nat → Int) → Prop, x_cl P → (∀ i, i < r → P (p i)) → P a → P v) (h0 : ∀ g, g < 12 → T.testBit g = true → v g = 0) (hc : c < 12) (hvc : ¬ v c = 0) : ¬ x_w a (x_W p r) (x_t T c) = 0 := by
  intro hz
  have hrow : ∀ i, i < r → x_Z (x_W p r) (p i) := fun i hi S => x_wd0 _ S (x_rlm' hi)
  have hvg : x_Z (x_w a (x_W p r)) v := hv _ (x_Zc x_domI _) (fun i hi S => by
    rw [x_wwa, x_wz _ _ (fun S => hrow i hi S)]; rfl) (fun S => x_ww0 _ _ S)
  have hTc : T.testBit c = false := Bool.eq_false_iff.2 (fun q => hvc (h0 c hc q))
  have hu0 : ∀ e, e < 12 → x_u (x_w a (x_W p r)) T e = 0 := fun e he => by
    by_cases q : T.testBit e = true
    · unfold x_u; rw [if_pos q]
    · have h := x_prp (f := x_w a (x_W p r)) (v := v) he (Bool.eq_false_iff.2 q) hc h0 hvg
      have hc0 : x_u (x_w a (x_W p r)) T c = 0 := by
        unfold x_u
        rw [if_neg (by rw [hTc]; exact Bool.noConfusion), hz, Int.mul_zero]
      rw [hc0, Int.mul_zero] at h
      exact (Int.mul_eq_zero.1 h).resolve_right hvc
  have hcl := x_Zc x_domI (x_W p r)
  have huin : ∀ T', x_Z (x_W p r) (x_u (x_W p r) T') := fun T' => x_uin hcl (x_rl p r) (fun q hq => by
    obtain ⟨i, hi, e⟩ := x_rlm hq
    rw [e]; exact hrow i hi) T'
  have ha : x_Z (x_W p r) a := by
    refine hcl.2.2.2 (x_W p r T) a hD (hcl.2.2.1 (fun e => x_sm 12 (fun g => if T.testBit g = true then x_s Int (x_od T g) * a g * x_u (x_W p r) (x_t T g) e else 0)) _ (fun e he => ?_) (x_cls hcl (fun g e => if T.testBit g = true then x_s Int (x_od T g) * a g * x_u (x_W p r) (x_t T g) e else 0) 12 (fun g hg => ?_)))
    · have h := x_uw a (x_W p r) T e he
      rw [hu0 e he] at h
      generalize x_sm 12 (fun g => if T.testBit g = true then x_s Int (x_od T g) * a g * x_u (x_W p r) (x_t T g) e else 0) = y at *
      show y = x_W p r T * a e
      omega
    · by_cases q : T.testBit g = true
      · refine hcl.2.2.1 (fun e => (x_s Int (x_od T g) * a g) * x_u (x_W p r) (x_t T g) e) _ (fun e _ => ?_) (x_clm hcl (x_s Int (x_od T g) * a g) (huin (x_t T g)))
        show _ = if T.testBit g = true then x_s Int (x_od T g) * a g * x_u (x_W p r) (x_t T g) e else 0
        rw [if_pos q]
      · refine hcl.2.2.1 _ _ (fun e _ => ?_) hcl.1
        show 0 = if T.testBit g = true then x_s Int (x_od T g) * a g * x_u (x_W p r) (x_t T g) e else 0
        rw [if_neg q]
  exact hvc (x_Z3 x_domI (hv _ hcl hrow ha) hD h0 c hc)
/-- the rows of A in the order s; T the pivots -/
def x_dw (R r : Nat) (A : Nat → Nat → Int) (piv : Nat → Nat) (M : Nat → Nat → Int) : Prop := ∃ (s : Nat → Nat) (T : Nat), (∀ i, i < R → s i < R) ∧ (¬ x_W (fun i => A (s i)) r T = 0) ∧ (∀ i, i < r → piv i < 12 ∧ T.testBit (piv i) = true) ∧ (∀ e, e < 12 → T.testBit e = true → ∃ i, i < r ∧ piv i = e) ∧ (∀ i, i < r → ∀ P : (Nat → Int) → Prop, x_cl P → (∀ i', i' < r → P (A (s i'))) → P (M i)) ∧ (∀ i, r ≤ i → i < R → ∀ P : (Nat → Int) → Prop, x_cl P → (∀ i', i' < r → P (A (s i'))) → P (A (s i)) → P (M i))
theorem x_dw0 {piv : Nat → Nat} : x_dw R 0 A piv A := ⟨fun i => i, 0, fun i h => h, by show ¬ (if (0 : Nat) = 0 then (1 : Int) else 0) = 0; decide, fun i h => absurd h (Nat.not_lt_zero i), fun e _ h => by rw [Nat.zero_testBit] at h; exact Bool.noConfusion h, fun i h => absurd h (Nat.not_lt_zero i), fun i _ _ P _ _ h => h⟩
theorem x_dwP {piv : Nat → Nat} (hpv : x_pv n R r c piv M) (hn : n ≤ 12) (hc : c < n) (hi1 : r ≤ i0) (hi2 : i0 < R) (hne : ¬ M i0 c = 0) (h : x_dw R r A piv M) : x_dw R (r + 1) A (fun x => if x = r then c else piv x) (x_elk 0 n (x_swr M i0 r) r c R) := by
  obtain ⟨s, T, h1, h2, h3, h4, h5, h6⟩ := h
  obtain ⟨v1, v2, v3, v4, v5, v6, v7⟩ := hpv
  have hr : r < R := by omega
  have hfix : ∀ i, i < r → x_pi i0 r i = i := fun i hi => by unfold x_pi; rw [if_neg (by omega), if_neg (by omega)]
  have hpr : x_pi i0 r r = i0 := by
    unfold x_pi
    by_cases q : r = i0
    · rw [if_pos q]; exact q
    · rw [if_neg q, if_pos rfl]
  have hge : ∀ i, r ≤ i → r ≤ x_pi i0 r i := fun i hi => by
    unfold x_pi
    split
    · exact Nat.le_refl r
    · split
      · exact hi1
      · exact hi
  have h0 : ∀ g, g < 12 → T.testBit g = true → M i0 g = 0 := fun g q1 q2 => by
    obtain ⟨i, a1, a2⟩ := h4 g q1 q2
    rw [← a2]; exact v7 i0 hi1 hi2 _ (v5 i a1).1
  have hTc : T.testBit c = false := Bool.eq_false_iff.2 (fun q => hne (h0 c (by omega) q))
  have hD := x_dwD (p := fun i => A (s i)) (a := A (s i0)) (v := M i0) (c := c) h2 (fun P hP q1 q2 => h6 i0 hi1 hi2 P hP q1 q2) h0 (by omega) hne
  -- rows lie where they should
  have hN : ∀ i, i < R → x_z0 n (x_swr M i0 r i) := fun i hi => by rw [x_swe]; exact v4 _ (x_pil hi2 hr hi)
  have mem : ∀ i, i < R → ∀ P : (Nat → Int) → Prop, x_cl P → (∀ i', i' < r + 1 → P (A (s (x_pi i0 r i')))) → (r < i → P (A (s (x_pi i0 r i)))) → P (x_elk 0 n (x_swr M i0 r) r c R i) := fun i hi P hP q1 q2 => by
    have b1 : ∀ i', i' < r → P (A (s i')) := fun i' w => by have := q1 i' (by omega); rw [hfix i' w] at this; exact this
    have b2 : P (x_swr M i0 r r) := by
      rw [x_swe, hpr]
      exact h6 i0 hi1 hi2 P hP b1 (by have := q1 r (by omega); rw [hpr] at this; exact this)
    have b3 : P (x_swr M i0 r i) := by
      by_cases w : i < r
      · rw [x_swe, hfix i w]; exact h5 i w P hP b1
      · by_cases w' : i = r
        · rw [w']; exact b2
        · rw [x_swe]
          exact h6 _ (hge i (by omega)) (x_pil hi2 hr hi) P hP b1 (q2 (by omega))
    unfold x_elk
    split
    · exact (x_tkP hP (hN i hi) (hN r hr) b2 (by rw [x_swe, hpr]; exact hne)).2 b3
    · exact b3
  refine ⟨fun i => s (x_pi i0 r i), x_t T c, fun i q => h1 _ (x_pil hi2 hr q), ?_, fun i hi => ?_, fun e q1 q2 => ?_, fun i hi P hP q => mem i (by omega) P hP q (fun w => absurd w (by omega)), fun i q1 q2 P hP q3 q4 => mem i q2 P hP q3 (fun _ => q4)⟩
  · rw [x_Ws]
    show ¬ x_w (A (s (x_pi i0 r r))) (x_W (fun i => A (s (x_pi i0 r i))) r) (x_t T c) = 0
    rw [hpr, x_wcf (g := x_W (fun i => A (s i)) r) _ _ (fun S => x_Wc r (fun i hi e _ => by show A (s (x_pi i0 r i)) e = A (s i) e; rw [hfix i hi]) S)]
    exact hD
  · show (if i = r then c else piv i) < 12 ∧ (x_t T c).testBit (if i = r then c else piv i) = true
    by_cases q : i = r
    · rw [if_pos q]; exact ⟨by omega, by rw [x_tbs, hTc]; rfl⟩
    · rw [if_neg q]
      have a1 := h3 i (by omega)
      have a2 := (v5 i (by omega)).1
      exact ⟨a1.1, by rw [x_tbn (by omega)]; exact a1.2⟩
  · by_cases q : e = c
    · exact ⟨r, by omega, by show (if r = r then c else piv r) = e; rw [if_pos rfl]; exact q.symm⟩
    · rw [x_tbn q] at q2
      obtain ⟨i, a1, a2⟩ := h4 e q1 q2
      exact ⟨i, by omega, by show (if i = r then c else piv i) = e; rw [if_neg (by omega)]; exact a2⟩
/-- the numbers stay small -/
theorem x_dwB {piv : Nat → Nat} (hpv : x_pv n R r c piv M) (hn : n ≤ 12) (hR : R ≤ 13) (hb0 : 0 < b) (hA : ∀ i, i < R → ∀ e, e < 12 → (A i e).natAbs ≤ b) (h : x_dw R r A piv M) {i : Nat} (hi : i < R) (hg : x_gc (M i) n = 1 ∨ ∀ j, j < n → M i j = 0) : ∀ j, j < n → (M i j).natAbs ≤ (12 * b) ^ 13 := by
  obtain ⟨s, T, h1, h2, h3, h4, h5, h6⟩ := h
  obtain ⟨v1, v2, v3, v4, v5, v6, v7⟩ := hpv
  have hpow : ∀ m, m ≤ 13 → (12 * b) ^ m ≤ (12 * b) ^ 13 := fun m hm => Nat.pow_le_pow_right (by omega) hm
  have hrow : ∀ i, i < r → x_Z (x_W (fun i => A (s i)) r) (A (s i)) := fun i hi S => x_wd0 _ S (x_rlm' (p := fun i => A (s i)) hi)
  rcases hg with hg | hg
  · by_cases q : i < r
    · have hTi : (x_t T (piv i)).testBit (piv i) = false := by rw [x_tbs, (h3 i q).2]; rfl
      refine x_tab (n0 := 12) (F := x_W (fun i => A (s i)) r) (T := x_t T (piv i)) (v := M i) (k := fun j => j) (Nat.le_refl 12) (x_ta0 (fun S => Nat.le_trans (x_Wb r (fun i hi e he => hA _ (h1 i (by omega)) e he) S) (hpow r (by omega)))) (fun j hj => by omega) (x_pnu (z := piv i) (h5 i q _ (x_Zc x_domI _) hrow) (h3 i q).1 hTi (v5 i q).2.1 (fun g q1 q2 => ?_) (by rw [x_tt]; exact h2)) x_pnr (Or.inl hg)
      have hgp : g ≠ piv i := fun y => by rw [y, hTi] at q2; exact Bool.noConfusion q2
      rw [x_tbn hgp] at q2
      obtain ⟨i', a1, a2⟩ := h4 g q1 q2
      rw [← a2]
      exact (v5 i' a1).2.2 i hi (fun y => hgp (by rw [← a2, y]))
    · -- a number that is not 0
      have hex : ∃ j, j < n ∧ ¬ M i j = 0 := Classical.byContradiction (fun w => by
        have hz : ∀ m, m ≤ n → x_gc (M i) m = 0 := fun m => by
          induction m with
          | zero => intro _; rfl
          | succ m ih =>
            intro hm
            have e0 : M i m = 0 := Classical.byContradiction (fun y => w ⟨m, by omega, y⟩)
            show Nat.gcd (x_gc (M i) m) (M i m).natAbs = 0
            rw [ih (by omega), e0]; rfl
        rw [hz n (Nat.le_refl n)] at hg
        exact absurd hg (by decide))
      obtain ⟨j0, hj0, hne⟩ := hex
      have h0 : ∀ g, g < 12 → T.testBit g = true → M i g = 0 := fun g q1 q2 => by
        obtain ⟨i', a1, a2⟩ := h4 g q1 q2
        rw [← a2]; exact v7 i (by omega) hi _ (v5 i' a1).1
      have hD := x_dwD (p := fun i => A (s i)) (a := A (s i)) (v := M i) (c := j0) h2 (fun P hP q1 q2 => h6 i (by omega) hi P hP q1 q2) h0 (by omega) hne
      have hTj : T.testBit j0 = false := Bool.eq_false_iff.2 (fun y => hne (h0 j0 (by omega) y))
      have hZ : x_Z (x_w (A (s i)) (x_W (fun i => A (s i)) r)) (M i) := h6 i (by omega) hi _ (x_Zc x_domI _) (fun i' w S => by
        rw [x_wwa, x_wz _ _ (fun S => hrow i' w S)]; rfl) (fun S => x_ww0 _ _ S)
      have hbd : ∀ S, (x_w (A (s i)) (x_W (fun i => A (s i)) r) S).natAbs ≤ (12 * b) ^ 13 := fun S => by
        have e : x_w (A (s i)) (x_W (fun i => A (s i)) r) S = x_W (fun i' => A (if i' < r then s i' else s i)) (r + 1) S := by
          rw [x_Ws]
          show _ = x_w (A (if r < r then s r else s i)) (x_W (fun i' => A (if i' < r then s i' else s i)) r) S
          rw [if_neg (Nat.lt_irrefl r)]
          refine x_wcf _ _ (fun S => x_Wc r (fun i' hi' e _ => ?_) S)
          show A (s i') e = A (if i' < r then s i' else s i) e
          rw [if_pos hi']
        rw [e]
        refine Nat.le_trans (x_Wb (r + 1) (fun i' hi' e he => ?_) S) (hpow (r + 1) (by omega))
        show (A (if i' < r then s i' else s i) e).natAbs ≤ b
        split
        · exact hA _ (h1 i' (by omega)) e he
        · exact hA _ (h1 i hi) e he
      exact x_tab (n0 := 12) (T := T) (v := M i) (k := fun j => j) (Nat.le_refl 12) (x_ta0 hbd) (fun j hj => by omega) (x_pnu (z := j0) hZ (by omega) hTj hne h0 hD) x_pnr (Or.inl hg)
  · intro j hj
    rw [hg j hj]; exact Nat.zero_le _
end RDW
