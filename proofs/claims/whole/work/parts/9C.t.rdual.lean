/-! PURE: dual of the reference's rows -/
theorem x_psc {piv : Nat → Nat} : ∀ (r : Nat), (∀ i i', i < i' → i' < r → piv i < piv i') → ∀ e, (∀ i, i < r → piv i < e) → x_cn e (fun i => (x_ps piv r).testBit i) = r
  | 0, _, e, _ => x_cnzz e (fun i _ => by show (0 : Nat).testBit i = false; exact Nat.zero_testBit i)
  | r + 1, h, e, he => by
    have ih := x_psc r (fun i i' q1 q2 => h i i' q1 (by omega)) e (fun i hi => he i (by omega))
    have hb := x_psb r (piv := piv) (fun i i' q1 q2 w => by have := h i i' q1 (by omega); omega)
    have hn : (x_ps piv r).testBit (piv r) = false := Bool.eq_false_iff.2 (fun w => by
      obtain ⟨i, hi, w2⟩ := (hb (piv r)).1 w
      have := h i r hi (by omega); omega)
    rw [x_cnf (k := piv r) (g := fun i => (x_ps piv r).testBit i) e (he r (by omega)) (by show (x_t (x_ps piv r) (piv r)).testBit (piv r) = true; rw [x_tbs, hn]; rfl) hn (fun i _ q => by show (x_t (x_ps piv r) (piv r)).testBit i = _; exact x_tbn q), ih]
theorem x_pskp {piv : Nat → Nat} {n r : Nat} (hn : n ≤ 12) (h : ∀ i i', i < i' → i' < r → piv i < piv i') (hp : ∀ i, i < r → piv i < n) : x_kp (x_ps piv r) r piv ∧ x_ps piv r < 2 ^ n ∧ x_n (x_ps piv r) = r := by
  have hb := x_psb r (piv := piv) (fun i i' q1 q2 w => by have := h i i' q1 q2; omega)
  have hcnt : ∀ i, i < r → x_cn (piv i) (fun e => (x_ps piv r).testBit e) = i := fun i hi => by
    have key : ∀ u, i + u ≤ r → x_cn (piv i) (fun e => (x_ps piv (i + u)).testBit e) = i := fun u => by
      induction u with
      | zero => intro _; exact x_psc i (fun a b q1 q2 => h a b q1 (by omega)) (piv i) (fun a q => h a i q hi)
      | succ u ih =>
        intro hu
        refine Eq.trans (x_cnc (piv i) (fun e he => ?_)) (ih (by omega))
        show (x_t (x_ps piv (i + u)) (piv (i + u))).testBit e = _
        by_cases q : u = 0
        · subst q
          exact x_tbn (show e ≠ piv (i + 0) by rw [Nat.add_zero]; omega)
        · have := h i (i + u) (by omega) (by omega)
          exact x_tbn (by omega)
    have := key (r - i) (by omega)
    rw [show i + (r - i) = r by omega] at this
    exact this
  have hl : x_ps piv r < 2 ^ 12 := by
    have key : ∀ u, u ≤ r → x_ps piv u < 2 ^ 12 := fun u => by
      induction u with
      | zero => intro _; show 0 < 2 ^ 12; decide
      | succ u ih =>
        intro hu
        exact x_tl (ih (by omega)) (by have := hp u (by omega); omega)
    exact key r (Nat.le_refl r)
  refine ⟨⟨⟨fun i j q1 q2 => h i j q1 q2, fun j hj => by have := hp j hj; omega⟩, fun i hi => (hb _).2 ⟨i, hi, rfl⟩, fun e he hbit => ?_⟩, x_lo hn (fun e q1 q2 => Bool.eq_false_iff.2 (fun w => by
    obtain ⟨i, hi, w2⟩ := (hb e).1 w
    have := hp i hi; omega)) hl, x_psc r h 12 (fun i hi => by have := hp i hi; omega)⟩
  obtain ⟨i, hi, e1⟩ := (hb e).1 hbit
  have := hcnt i hi
  rw [e1] at this
  rw [this]
  exact ⟨hi, e1⟩
/-- the least common multiple of the pivots -/
def x_lc (piv : Nat → Nat) (K : Nat → Nat → Int) : Nat → Nat
  | 0 => 1
  | i + 1 => Nat.lcm (x_lc piv K i) (K i (piv i)).natAbs
theorem x_lcd {piv : Nat → Nat} {K : Nat → Nat → Int} : ∀ r i, i < r → (K i (piv i)).natAbs ∣ x_lc piv K r
  | 0, i, h => absurd h (Nat.not_lt_zero i)
  | r + 1, i, h => by
    show _ ∣ Nat.lcm (x_lc piv K r) (K r (piv r)).natAbs
    by_cases q : i = r
    · rw [q]; exact Nat.dvd_lcm_right _ _
    · exact Nat.dvd_trans (x_lcd r i (by omega)) (Nat.dvd_lcm_left _ _)
theorem x_lcM {piv : Nat → Nat} {K : Nat → Nat → Int} {M : Nat} : ∀ r, (∀ i, i < r → (K i (piv i)).natAbs ∣ M) → x_lc piv K r ∣ M
  | 0, _ => ⟨M, (Nat.one_mul M).symm⟩
  | r + 1, h => Nat.lcm_dvd (x_lcM r (fun i hi => h i (by omega))) (h r (by omega))
theorem x_lcp {piv : Nat → Nat} {K : Nat → Nat → Int} : ∀ r, (∀ i, i < r → 0 < K i (piv i)) → 0 < x_lc piv K r
  | 0, _ => Nat.one_pos
  | r + 1, h => Nat.lcm_pos (x_lcp r (fun i hi => h i (by omega))) (by have := h r (by omega); omega)
theorem x_lcl {piv : Nat → Nat} {K : Nat → Nat → Int} {B : Nat} : ∀ r, (∀ i, i < r → 0 < K i (piv i)) → (∀ i, i < r → (K i (piv i)).natAbs ≤ B) → x_lc piv K r ≤ B ^ r
  | 0, _, _ => Nat.le_refl 1
  | r + 1, h0, h => by
    have ih := x_lcl r (fun i hi => h0 i (by omega)) (fun i hi => h i (by omega))
    have h1 : Nat.lcm (x_lc piv K r) (K r (piv r)).natAbs ≤ x_lc piv K r * (K r (piv r)).natAbs := Nat.le_of_dvd (Nat.mul_pos (x_lcp r (fun i hi => h0 i (by omega))) (by have := h0 r (by omega); omega)) (Nat.lcm_dvd_mul _ _)
    rw [Nat.pow_succ]
    exact Nat.le_trans h1 (Nat.mul_le_mul ih (h r (by omega)))
theorem x_gcmul {v : Nat → Int} {d M : Nat} : ∀ n, (∀ j, j < n → d ∣ M * (v j).natAbs) → d ∣ M * x_gc v n
  | 0, _ => ⟨0, by show M * 0 = _; rw [Nat.mul_zero, Nat.mul_zero]⟩
  | n + 1, h => by
    show d ∣ M * Nat.gcd (x_gc v n) (v n).natAbs
    rw [← Nat.gcd_mul_left]
    exact Nat.dvd_gcd (x_gcmul n (fun j hj => h j (by omega))) (h n (by omega))
def x_prd (f : Nat → Nat) : Nat → Nat
  | 0 => 1
  | m + 1 => x_prd f m * f m
theorem x_prdd {f : Nat → Nat} : ∀ m j, j < m → f j ∣ x_prd f m
  | 0, j, h => absurd h (Nat.not_lt_zero j)
  | m + 1, j, h => by
    show f j ∣ x_prd f m * f m
    by_cases q : j = m
    · rw [q]; exact ⟨_, Nat.mul_comm _ _⟩
    · exact Nat.dvd_trans (x_prdd m j (by omega)) ⟨_, rfl⟩
theorem x_prdl {f : Nat → Nat} {B : Nat} {t : Nat → Bool} : ∀ m, (∀ j, j < m → 0 < f j ∧ (t j = true → f j ≤ B) ∧ (t j = false → f j = 1)) → 0 < x_prd f m ∧ x_prd f m ≤ B ^ x_cn m t
  | 0, _ => ⟨Nat.one_pos, Nat.le_refl 1⟩
  | m + 1, h => by
    obtain ⟨i1, i2⟩ := x_prdl m (fun j hj => h j (by omega))
    obtain ⟨a1, a2, a3⟩ := h m (by omega)
    show 0 < x_prd f m * f m ∧ x_prd f m * f m ≤ B ^ (x_cn m t + (if t m = true then 1 else 0))
    refine ⟨Nat.mul_pos i1 a1, ?_⟩
    cases q : t m
    · rw [a3 q, Nat.mul_one]; exact i2
    · show _ ≤ B ^ (x_cn m t + 1)
      rw [Nat.pow_succ]
      exact Nat.mul_le_mul i2 (a2 q)
/-- the least common multiple is small, as the form is tame -/
theorem x_lcB {n r : Nat} {piv : Nat → Nat} {K : Nat → Nat → Int} {g : Nat → Int} (hg : x_gh 0 n r g) (hK : x_KK 0 n r piv K) (hpp : x_pp 0 r K g) : x_lc piv K r ≤ (2 ^ 142) ^ 6 := by
  obtain ⟨s2, g1, s3, s4, s5, s6, s7, s8, s9⟩ := hK
  have hpos : ∀ i, i < r → 0 < K i (piv i) := fun i hi => (s3 i hi).2
  by_cases hr6 : r ≤ 6
  · exact Nat.le_trans (x_lcl r hpos (fun i hi => (s8 rfl i hi).2 _ (s3 i hi).1)) (Nat.pow_le_pow_right (by decide) hr6)
  · obtain ⟨kp, hZ, hZn⟩ := x_pskp g1 s5 (fun i hi => (s3 i hi).1)
    have hpne : ∀ i i', i < i' → i' < r → piv i ≠ piv i' := fun i i' q1 q2 w => by have := s5 i i' q1 q2; omega
    obtain ⟨a, b, ha, hb, he⟩ := hpp
    simp only [x_md0] at ha hb he
    have hps0 : ¬ x_W K r (x_ps piv r) = 0 := x_psW x_domI r hpne (fun i hi => ⟨by have := (s3 i hi).1; omega, by have := (s3 i hi).2; omega⟩) s4
    have hgps : ¬ g (x_ps piv r) = 0 := fun q => by
      have := he (x_ps piv r)
      rw [q, Int.mul_zero] at this
      rcases Int.mul_eq_zero.1 this with y | y
      · exact ha y
      · exact hps0 y
    have hbits := x_psb r (piv := piv) hpne
    generalize x_ps piv r = Z at *
    -- for each column outside Z a number
    have hu : ∀ j, j < n → ∃ u : Nat, 0 < u ∧ u ≤ 2 ^ 142 ∧ (Z.testBit j = false → ∀ i, i < r → (K i (piv i)).natAbs ∣ u * (K i j).natAbs) := fun j hj => by
      cases hZj : Z.testBit j with
      | true => exact ⟨1, by decide, by decide +kernel, fun q => Bool.noConfusion q⟩
      | false =>
        obtain ⟨u, c, d, hc, hd, hu⟩ := hg.2.2.2 rfl (x_t Z j) true
        have u1 := hu j hj (by rw [x_tbs, hZj]; rfl)
        rw [x_tt] at u1
        have hu0 : 0 < u j := Nat.pos_of_ne_zero (fun q => by
          rw [q, Nat.mul_zero] at u1
          have : 0 < d * (g Z).natAbs := Nat.mul_pos hd (by omega)
          omega)
        refine ⟨u j, hu0, u1.1, fun _ i hi => ?_⟩
        have hpi := (s3 i hi).1
        have hbi : Z.testBit (piv i) = true := (hbits _).2 ⟨i, hi, rfl⟩
        have hij : piv i ≠ j := fun w => by rw [w, hZj] at hbi; exact Bool.noConfusion hbi
        have u2 := (hu (piv i) hpi (by rw [x_tbn hij]; exact hbi)).2
        have hTi : (x_t Z (piv i)).testBit (piv i) = false := by rw [x_tbs, hbi]; rfl
        have hpr := x_prp (v := K i) (f := g) (T := x_t Z (piv i)) (j := piv i) (e := j) (by omega) hTi (by omega) (fun e q1 q2 => by
          have hne : e ≠ piv i := fun y => by rw [y, hTi] at q2; exact Bool.noConfusion q2
          rw [x_tbn hne] at q2
          obtain ⟨i', w1, w2⟩ := (hbits e).1 q2
          rw [← w2]
          exact s4 i' i w1 hi (fun y => hne (by rw [← w2, y]))) ((x_Zp x_domI ha hb he (K i)).1 (x_Wrow hi))
        have e1 : (x_u g (x_t Z (piv i)) (piv i)).natAbs = (g Z).natAbs := by
          unfold x_u
          rw [if_neg (by rw [hTi]; exact Bool.noConfusion), x_tt, Int.natAbs_mul, x_sabs, Nat.one_mul]
        have e2 : (x_u g (x_t Z (piv i)) j).natAbs = (g (x_t (x_t Z j) (piv i))).natAbs := by
          unfold x_u
          rw [if_neg (by rw [x_tbn (fun w => hij w.symm), hZj]; exact Bool.noConfusion), Int.natAbs_mul, x_sabs, Nat.one_mul, x_tc]
        have e3 : (g Z).natAbs * (K i j).natAbs = (K i (piv i)).natAbs * (g (x_t (x_t Z j) (piv i))).natAbs := by
          rw [← e1, ← e2, ← Int.natAbs_mul, ← Int.natAbs_mul, hpr]
        refine ⟨u (piv i), ?_⟩
        have e4 : c * (u j * (K i j).natAbs) = c * ((K i (piv i)).natAbs * u (piv i)) := by
          have u1' := u1.2
          generalize (g Z).natAbs = G at *
          generalize (g (x_t (x_t Z j) (piv i))).natAbs = H at *
          generalize (K i j).natAbs = X at *
          generalize (K i (piv i)).natAbs = Y at *
          calc c * (u j * X) = (c * u j) * X := by grind
            _ = d * (G * X) := by rw [u1']; grind
            _ = Y * (d * H) := by rw [e3]; grind
            _ = c * (Y * u (piv i)) := by rw [← u2]; grind
        exact Nat.eq_of_mul_eq_mul_left hc e4
    obtain ⟨f, hf⟩ : ∃ f : Nat → Nat, ∀ j, j < n → 0 < f j ∧ f j ≤ 2 ^ 142 ∧ (Z.testBit j = false → ∀ i, i < r → (K i (piv i)).natAbs ∣ f j * (K i j).natAbs) := by
      refine ⟨fun j => if h : j < n then Classical.choose (hu j h) else 0, fun j hj => ?_⟩
      show 0 < (if h : j < n then Classical.choose (hu j h) else 0) ∧ _
      have := Classical.choose_spec (hu j hj)
      simp only [dif_pos hj]
      exact this
    have hcn : x_cn n (fun j => !Z.testBit j) ≤ 6 := by
      have h1 := x_cnn2 (fun j => Z.testBit j) n
      rw [x_cnS g1 hZ, hZn] at h1
      omega
    have hM := x_prdl (f := fun j => if Z.testBit j = true then 1 else f j) (B := 2 ^ 142) (t := fun j => !Z.testBit j) n (fun j hj => by
      show 0 < (if Z.testBit j = true then 1 else f j) ∧ ((!Z.testBit j) = true → (if Z.testBit j = true then 1 else f j) ≤ 2 ^ 142) ∧ ((!Z.testBit j) = false → (if Z.testBit j = true then 1 else f j) = 1)
      cases hZj : Z.testBit j with
      | true => exact ⟨Nat.one_pos, fun q => Bool.noConfusion q, fun _ => rfl⟩
      | false => exact ⟨(hf j hj).1, fun _ => (hf j hj).2.1, fun q => Bool.noConfusion q⟩)
    have hdv : x_lc piv K r ∣ x_prd (fun j => if Z.testBit j = true then 1 else f j) n := x_lcM r (fun i hi => by
      have h1 := x_gcmul (v := K i) (d := (K i (piv i)).natAbs) (M := x_prd (fun j => if Z.testBit j = true then 1 else f j) n) n (fun j hj => by
        cases hZj : Z.testBit j with
        | true =>
          obtain ⟨i', w1, w2⟩ := (hbits j).1 hZj
          by_cases q : i' = i
          · rw [← w2, q]; exact ⟨_, Nat.mul_comm _ _⟩
          · rw [← w2, s4 i' i w1 hi (fun y => q y.symm)]; exact ⟨0, rfl⟩
        | false =>
          have h2 := (hf j hj).2.2 hZj i hi
          have h3 := x_prdd (f := fun j => if Z.testBit j = true then 1 else f j) n j hj
          have e : (if Z.testBit j = true then 1 else f j) = f j := by
            rw [hZj]; rfl
          rw [e] at h3
          exact Nat.dvd_trans h2 (Nat.mul_dvd_mul h3 (Nat.dvd_refl _)))
      rw [s8 rfl i hi |>.1, Nat.mul_one] at h1
      exact h1)
    exact Nat.le_trans (Nat.le_of_dvd hM.1 hdv) (Nat.le_trans hM.2 (Nat.pow_le_pow_right (by decide) hcn))
