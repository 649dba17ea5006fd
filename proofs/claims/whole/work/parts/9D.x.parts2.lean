/-! PURE: parts of copies, sums, and of rows told -/
theorem x_odcs {B q e : Nat} (hq : q < 12) (he : e < 12) (b1 : B.testBit q = true) (b2 : B.testBit e = false) : (x_od (x_t B q) e ^^ x_od (x_t B q) q) = x_cs B q e := by
  rw [x_odt e hq, x_odt q hq, decide_eq_false (Nat.lt_irrefl q), Bool.xor_false]
  have hqe : q ≠ e := fun z => by rw [z, b2] at b1; exact Bool.noConfusion b1
  have key : (x_od B e ^^ x_od B q) = x_xs 12 (fun i => (decide (e < i) && B.testBit i) ^^ (decide (q < i) && B.testBit i)) := (x_xsx _ _ 12).symm
  by_cases w : e < q
  · have e1 : x_xs 12 (fun i => (decide (e < i) && B.testBit i) ^^ (decide (q < i) && B.testBit i)) = (x_cr B e q ^^ true) := by
      have : ∀ i, i < 12 → ((decide (e < i) && B.testBit i) ^^ (decide (q < i) && B.testBit i)) = ((B.testBit i && decide (e < i ∧ i < q)) ^^ decide (i = q)) := fun i _ => by
        by_cases w1 : i = q
        · rw [w1, b1, decide_eq_true w, decide_eq_false (Nat.lt_irrefl q), decide_eq_true rfl, decide_eq_false (fun z : e < q ∧ q < q => Nat.lt_irrefl q z.2)]; rfl
        · rw [decide_eq_false w1, Bool.xor_false]
          by_cases w2 : q < i
          · rw [decide_eq_true (show e < i by omega), decide_eq_true w2, decide_eq_false (fun z : e < i ∧ i < q => by omega)]
            cases B.testBit i <;> rfl
          · rw [decide_eq_false w2]
            by_cases w3 : e < i
            · rw [decide_eq_true w3, decide_eq_true (show e < i ∧ i < q by omega)]
              cases B.testBit i <;> rfl
            · rw [decide_eq_false w3, decide_eq_false (fun z : e < i ∧ i < q => w3 z.1)]
              cases B.testBit i <;> rfl
      rw [x_xsc 12 this, x_xsx]
      congr 1
      rw [x_xs1 (k := q) 12 hq (fun i _ hi => decide_eq_false hi), decide_eq_true rfl]
    have e2 : x_cs B q e = x_cr B e q := by unfold x_cs; rw [Nat.min_eq_right (by omega), Nat.max_eq_left (by omega)]
    rw [e2, decide_eq_true w]
    rw [e1] at key
    revert key
    cases x_od B e <;> cases x_od B q <;> cases x_cr B e q <;> decide
  · have e1 : x_xs 12 (fun i => (decide (e < i) && B.testBit i) ^^ (decide (q < i) && B.testBit i)) = x_cr B q e := by
      refine x_xsc 12 (fun i _ => ?_)
      by_cases w1 : i = e
      · rw [w1, b2]
        cases decide (e < e) <;> cases decide (q < e) <;> rfl
      · by_cases w2 : e < i
        · rw [decide_eq_true w2, decide_eq_true (show q < i by omega), decide_eq_false (fun z : q < i ∧ i < e => by omega)]
          cases B.testBit i <;> rfl
        · rw [decide_eq_false w2]
          by_cases w3 : q < i
          · rw [decide_eq_true w3, decide_eq_true (show q < i ∧ i < e by omega)]
            cases B.testBit i <;> rfl
          · rw [decide_eq_false w3, decide_eq_false (fun z : q < i ∧ i < e => w3 z.1)]
            cases B.testBit i <;> rfl
    have e2 : x_cs B q e = x_cr B q e := by unfold x_cs; rw [Nat.min_eq_left (by omega), Nat.max_eq_right (by omega)]
    rw [e2, decide_eq_false w, Bool.xor_false, key, e1]
theorem x_orx2 {B q e : Nat} (h : q ≠ e) : B ^^^ (2 ^ q ||| 2 ^ e) = x_t (x_t B q) e := by
  refine Nat.eq_of_testBit_eq (fun i => ?_)
  rw [Nat.testBit_xor, Nat.testBit_or, Nat.testBit_two_pow, Nat.testBit_two_pow, x_tb, x_tb]
  by_cases w1 : q = i
  · have : ¬ e = i := fun z => h (w1.trans z.symm)
    rw [decide_eq_true w1, decide_eq_false this]
    cases B.testBit i <;> rfl
  · rw [decide_eq_false w1]
    cases B.testBit i <;> cases decide (e = i) <;> rfl
section XPW
variable {p n n2 : Nat} {pt pt' pt2 : Nat → Option Nat} {cc hd cc' hd' cc2 hd2 : Nat → Nat} {tb tb' tb2 : Nat → Bool} {Z Z' Z2 : Nat → Nat → Int} {g g2 : Nat → Int}
/-- rows told -/
theorem x_PVs {r x : Nat} (hg : x_gh p n r g) (hpt : ∀ e, e < n → pt e = some x) (hcc : ∀ e, e < n → cc e = e) (hhd : hd x = 0) (htb : tb x = false) (hZ : Z x = g) : x_PV p n g pt cc hd tb Z := by
  have hn := hg.1
  have hch : ∀ B, ¬ x_md p (g B) = 0 → x_chn hd pt cc tb n x B = B := fun B w => by
    have hB := (hg.2.1 B w).1
    unfold x_chn
    refine Nat.eq_of_testBit_eq (fun j => ?_)
    rw [Bool.eq_iff_iff, x_hob, hhd, htb, Nat.zero_testBit]
    constructor
    · intro h
      rcases h with h | ⟨e, h1, h2, h3, h4⟩
      · exact Bool.noConfusion h
      · rw [hcc e h1] at h4
        rw [← h4]
        rw [Bool.xor_false] at h3; exact h3
    · intro h
      have := x_lt12 hn hB h
      exact Or.inr ⟨j, this, hpt j this, by rw [Bool.xor_false]; exact h, hcc j this⟩
  refine ⟨fun B e y w he hy => ?_, fun B q e x1 y w hq he b1 b2 hx hy => ?_⟩
  · rw [hpt e he] at hy
    cases hy
    rw [hch B w, hZ]; exact w
  · rw [hpt q hq] at hx
    rw [hpt e he] at hy
    cases hx
    cases hy
    refine ⟨fun _ => ?_, fun z => absurd rfl z⟩
    have hqe : q ≠ e := fun z => by rw [z, b2] at b1; exact Bool.noConfusion b1
    rw [hcc q hq, hcc e he, hch B w, hZ, htb, x_orx2 hqe, Bool.false_xor, ← x_odcs (by omega) (by omega) b1 b2]
    refine ⟨hqe, ?_⟩
    congr 1
    have u1 : x_u g (x_t B q) e = x_s Int (x_od (x_t B q) e) * g (x_t (x_t B q) e) := by
      unfold x_u
      rw [if_neg (by rw [x_tbn (fun y => hqe y.symm), b2]; exact Bool.noConfusion)]
    have u2 : x_u g (x_t B q) q = x_s Int (x_od (x_t B q) q) * g B := by
      unfold x_u
      rw [if_neg (by rw [x_tbs, b1]; exact Bool.noConfusion), x_tt]
    rw [u1, u2, x_sx]
    have := x_ss (R := Int) (x_od (x_t B q) q)
    generalize x_s Int (x_od (x_t B q) q) = s at *
    grind
/-- copies -/
theorem x_PVc (h : x_PV p n g pt cc hd tb Z) (hT : x_TR n n 0 n (fun i => i) 0 0 false pt cc hd tb Z pt' cc' hd' tb' Z') : x_PV p n g pt' cc' hd' tb' Z' := by
  have hBT : ∀ T i, i < n → (T : Nat).testBit i = (T.testBit (0 + i) ^^ false) := fun T i hi => by
    rw [Nat.zero_add, Bool.xor_false]
  have hBS : ∀ T e, e < n → (0 : Nat).testBit e = true → (T : Nat).testBit e = (0 : Nat).testBit e := fun T e he q => by
    rw [Nat.zero_testBit] at q; exact Bool.noConfusion q
  have hT5 := hT.2.2.2.2.1
  have hT6 := hT.2.2.2.2.2.1
  have hT4 := hT.2.2.2.1
  refine ⟨fun T e y w he hy => ?_, fun T q e x y w hq he b1 b2 hx hy => ?_⟩
  · obtain ⟨a, b, c1, c2, _⟩ := hT5 e he
    rw [Nat.zero_add, hy] at c2
    cases c2
    obtain ⟨d1, d2, d3⟩ := x_chT hT (i := e) he c1 (by rw [Nat.zero_add]; exact hy) (hBT T) (hBS T)
    rw [d1, d3]
    exact h.1 _ e a w he c1
  · obtain ⟨a, b, c1, c2, _⟩ := hT5 q hq
    obtain ⟨a', b', c1', c2', _⟩ := hT5 e he
    rw [Nat.zero_add, hx] at c2
    rw [Nat.zero_add, hy] at c2'
    cases c2
    cases c2'
    obtain ⟨d1, d2, d3⟩ := x_chT hT (i := q) hq c1 (by rw [Nat.zero_add]; exact hx) (hBT T) (hBS T)
    obtain ⟨o1, o2⟩ := h.2 _ q e a a' w hq he b1 b2 c1 c1'
    have hxy : x = y ↔ a = a' := by
      have := hT6 q e hq he
      rw [Nat.zero_add, Nat.zero_add, hx, hy, c1, c1'] at this
      exact ⟨fun z => Option.some.inj (this.1 (by rw [z])), fun z => Option.some.inj (this.2 (by rw [z]))⟩
    refine ⟨fun z => ?_, fun z => o2 (fun y => z (hxy.2 y))⟩
    have c3 := hT4 q hq
    have c4 := hT4 e he
    rw [Nat.zero_add] at c3 c4
    rw [d1, d2, d3, c3, c4, Bool.xor_false]
    exact o1 (hxy.1 z)
theorem x_fju1 {T e : Nat} (hn : n + n2 ≤ 12) (hT : T < 2 ^ (n + n2)) (he : e < n) : x_u (x_fj n n2 g g2) T e = x_s Int (x_xs 12 (fun i => decide (n ≤ i) && T.testBit i)) * g2 (T / 2 ^ n) * x_u g (T % 2 ^ n) e := by
  have hb : (T % 2 ^ n).testBit e = T.testBit e := by rw [x_mb, decide_eq_true he, Bool.true_and]
  unfold x_u
  rw [hb]
  by_cases q : T.testBit e = true
  · rw [if_pos q, if_pos q, Int.mul_zero]
  · rw [if_neg q, if_neg q]
    unfold x_fj
    rw [if_pos (x_tl hT (by omega)), x_mt he, x_dt he, x_odm (S := T) (n := n) (by omega) he, x_sx]
    grind
theorem x_fju2 {T e : Nat} (hn : n + n2 ≤ 12) (hT : T < 2 ^ (n + n2)) (he1 : n ≤ e) (he2 : e < n + n2) : x_u (x_fj n n2 g g2) T e = g (T % 2 ^ n) * x_u g2 (T / 2 ^ n) (e - n) := by
  have hb : (T / 2 ^ n).testBit (e - n) = T.testBit e := by rw [x_db, show n + (e - n) = e by omega]
  have hT12 : T < 2 ^ 12 := Nat.lt_of_lt_of_le hT (Nat.pow_le_pow_right (by decide) hn)
  unfold x_u
  rw [hb]
  by_cases q : T.testBit e = true
  · rw [if_pos q, if_pos q, Int.mul_zero]
  · rw [if_neg q, if_neg q]
    unfold x_fj
    rw [if_pos (x_tl hT he2), x_mt' he1, x_dt' he1, x_odd (S := T) (n := n) (by omega) hT12 he1]
    grind
/-- sums -/
theorem x_PVj {r r2 : Nat} (hp : x_pm p) (hn : n + n2 ≤ 12) (hg : x_gh p n r g) (hg2 : x_gh p n2 r2 g2) (h1 : x_PV p n g pt cc hd tb Z) (h2 : x_PV p n2 g2 pt2 cc2 hd2 tb2 Z2) (hT1 : x_TR n n 0 (n + n2) (fun i => i) 0 0 false pt cc hd tb Z pt' cc' hd' tb' Z') (hT2 : x_TR n2 n2 n (n + n2) (fun i => i) 0 0 false pt2 cc2 hd2 tb2 Z2 pt' cc' hd' tb' Z') : x_PV p (n + n2) (x_fj n n2 g g2) pt' cc' hd' tb' Z' := by
  obtain ⟨F, _, φ, hm'⟩ := x_hmex hp
  have hbas : ∀ T, ¬ x_md p (x_fj n n2 g g2 T) = 0 → T < 2 ^ (n + n2) ∧ (¬ x_md p (g (T % 2 ^ n)) = 0) ∧ ¬ x_md p (g2 (T / 2 ^ n)) = 0 := fun T w => by
    unfold x_fj at w
    by_cases q : T < 2 ^ (n + n2)
    · rw [if_pos q, x_mdm hp] at w
      exact ⟨q, fun z => w (Or.inl z), fun z => w (Or.inr z)⟩
    · rw [if_neg q, x_md00 hp] at w; exact absurd rfl w
  have hBT1 : ∀ T i, i < n → (T % 2 ^ n : Nat).testBit i = (T.testBit (0 + i) ^^ false) := fun T i hi => by
    rw [Nat.zero_add, Bool.xor_false, x_mb, decide_eq_true hi, Bool.true_and]
  have hBT2 : ∀ T i, i < n2 → (T / 2 ^ n : Nat).testBit i = (T.testBit (n + i) ^^ false) := fun T i hi => by
    rw [Bool.xor_false, x_db]
  have hBS : ∀ (T k e : Nat), e < k → (0 : Nat).testBit e = true → (T : Nat).testBit e = (0 : Nat).testBit e := fun T k e he q => by
    rw [Nat.zero_testBit] at q; exact Bool.noConfusion q
  have a5 := hT1.2.2.2.2.1
  have a6 := hT1.2.2.2.2.2.1
  have a4 := hT1.2.2.2.1
  have a7 := hT1.2.2.2.2.2.2
  have b5 := hT2.2.2.2.2.1
  have b6 := hT2.2.2.2.2.2.1
  have b4 := hT2.2.2.2.1
  have h0 : ∀ T, x_n T ≠ r → x_md p (g T) = 0 := fun T w => Classical.byContradiction (fun z => w (hg.2.1 T z).2)
  have hcross : ∀ B q e, q < n → n ≤ e → x_md p (g (B % 2 ^ n)) ≠ 0 → x_md p (x_fj n n2 g g2 (x_t (x_t B q) e)) = 0 := fun B q e hq he w => by
    unfold x_fj
    by_cases z : x_t (x_t B q) e < 2 ^ (n + n2)
    · rw [if_pos z, x_mdm hp]
      refine Or.inl (h0 _ (fun y => ?_))
      rw [x_mt' he, x_mt hq] at y
      have s := (hg.2.1 _ w).2
      cases v : (B % 2 ^ n).testBit q
      · have := x_nt0 (S := B % 2 ^ n) (show q < 12 by omega) v; omega
      · have := x_nt1 (S := B % 2 ^ n) (show q < 12 by omega) v; omega
    · rw [if_neg z]; exact x_md00 hp
  refine ⟨fun T e y w he hy => ?_, fun T q e x y w hq he b1 b2 hx hy => ?_⟩
  · obtain ⟨w1, w2, w3⟩ := hbas T w
    by_cases he1 : e < n
    · obtain ⟨a, b, c1, c2, _⟩ := a5 e he1
      rw [Nat.zero_add, hy] at c2
      cases c2
      obtain ⟨d1, d2, d3⟩ := x_chT hT1 (i := e) he1 c1 (by rw [Nat.zero_add]; exact hy) (hBT1 T) (hBS _ n)
      rw [d1, d3]
      exact h1.1 _ e a w2 he1 c1
    · obtain ⟨i, rfl⟩ : ∃ i, e = n + i := ⟨e - n, by omega⟩
      have hi : i < n2 := by omega
      obtain ⟨a, b, c1, c2, _⟩ := b5 i hi
      rw [hy] at c2
      cases c2
      obtain ⟨d1, d2, d3⟩ := x_chT hT2 (i := i) hi c1 hy (hBT2 T) (hBS _ n2)
      rw [d1, d3]
      exact h2.1 _ i a w3 hi c1
  · obtain ⟨w1, w2, w3⟩ := hbas T w
    have hTq : x_t T q < 2 ^ (n + n2) := x_tl w1 hq
    by_cases hq1 : q < n
    · by_cases he1 : e < n
      · obtain ⟨a, b, c1, c2, _⟩ := a5 q hq1
        obtain ⟨a', b', c1', c2', _⟩ := a5 e he1
        rw [Nat.zero_add, hx] at c2
        rw [Nat.zero_add, hy] at c2'
        cases c2
        cases c2'
        obtain ⟨d1, d2, d3⟩ := x_chT hT1 (i := q) hq1 c1 (by rw [Nat.zero_add]; exact hx) (hBT1 T) (hBS _ n)
        have hB1 : (T % 2 ^ n).testBit q = true := by rw [hBT1 T q hq1, Nat.zero_add, b1]; rfl
        have hB2 : (T % 2 ^ n).testBit e = false := by rw [hBT1 T e he1, Nat.zero_add, b2]; rfl
        obtain ⟨o1, o2⟩ := h1.2 _ q e a a' w2 hq1 he1 hB1 hB2 c1 c1'
        have hxy : x = y ↔ a = a' := by
          have := a6 q e hq1 he1
          rw [Nat.zero_add, Nat.zero_add, hx, hy, c1, c1'] at this
          exact ⟨fun z => Option.some.inj (this.1 (by rw [z])), fun z => Option.some.inj (this.2 (by rw [z]))⟩
        refine ⟨fun z => ?_, fun z => ?_⟩
        · obtain ⟨o3, o4⟩ := o1 (hxy.1 z)
          have c3 := a4 q hq1
          have c4 := a4 e he1
          rw [Nat.zero_add] at c3 c4
          refine ⟨by rw [c3, c4]; exact o3, ?_⟩
          rw [d1, d2, d3, c3, c4, Bool.xor_false, x_fju1 hn hTq he1, x_fju1 hn hTq hq1, x_mt hq1]
          rw [← hm'.2.2.2.2.2.2.2] at o4 ⊢
          simp only [hm'.2.2.1] at o4 ⊢
          generalize φ (x_s Int (x_xs 12 (fun i => decide (n ≤ i) && (x_t T q).testBit i))) = s1 at *
          generalize φ (g2 (x_t T q / 2 ^ n)) = s2 at *
          grind
        · unfold x_fj
          rw [if_pos (x_tl hTq he), x_mdm hp, x_mt he1, x_mt hq1]
          exact Or.inl (o2 (fun y => z (hxy.2 y)))
      · refine ⟨fun z => ?_, fun _ => hcross T q e hq1 (by omega) w2⟩
        have := a7 q e hq1 he (Or.inr (by omega))
        rw [Nat.zero_add, hx, hy, z] at this
        exact absurd rfl this
    · by_cases he1 : e < n
      · refine ⟨fun z => ?_, fun _ => by rw [x_tc]; exact hcross T e q he1 (by omega) w2⟩
        have := a7 e q he1 hq (Or.inr (by omega))
        rw [Nat.zero_add, hx, hy, z] at this
        exact absurd rfl this
      · obtain ⟨i, rfl⟩ : ∃ i, q = n + i := ⟨q - n, by omega⟩
        obtain ⟨j, rfl⟩ : ∃ j, e = n + j := ⟨e - n, by omega⟩
        have hi : i < n2 := by omega
        have hj : j < n2 := by omega
        obtain ⟨a, b, c1, c2, _⟩ := b5 i hi
        obtain ⟨a', b', c1', c2', _⟩ := b5 j hj
        rw [hx] at c2
        rw [hy] at c2'
        cases c2
        cases c2'
        obtain ⟨d1, d2, d3⟩ := x_chT hT2 (i := i) hi c1 hx (hBT2 T) (hBS _ n2)
        have hB1 : (T / 2 ^ n).testBit i = true := by rw [hBT2 T i hi, b1]; rfl
        have hB2 : (T / 2 ^ n).testBit j = false := by rw [hBT2 T j hj, b2]; rfl
        obtain ⟨o1, o2⟩ := h2.2 _ i j a a' w3 hi hj hB1 hB2 c1 c1'
        have hxy : x = y ↔ a = a' := by
          have := b6 i j hi hj
          rw [hx, hy, c1, c1'] at this
          exact ⟨fun z => Option.some.inj (this.1 (by rw [z])), fun z => Option.some.inj (this.2 (by rw [z]))⟩
        have e1 : x_t T (n + i) / 2 ^ n = x_t (T / 2 ^ n) i := by rw [x_dt' (by omega), show n + i - n = i by omega]
        refine ⟨fun z => ?_, fun z => ?_⟩
        · obtain ⟨o3, o4⟩ := o1 (hxy.1 z)
          have c3 := b4 i hi
          have c4 := b4 j hj
          refine ⟨by rw [c3, c4]; exact o3, ?_⟩
          rw [d1, d2, d3, c3, c4, Bool.xor_false, x_fju2 hn hTq (by omega) (by omega), x_fju2 hn hTq (by omega) (by omega), e1, show n + j - n = j by omega, show n + i - n = i by omega]
          rw [← hm'.2.2.2.2.2.2.2] at o4 ⊢
          simp only [hm'.2.2.1] at o4 ⊢
          generalize φ (g (x_t T (n + i) % 2 ^ n)) = s1 at *
          grind
        · unfold x_fj
          rw [if_pos (x_tl hTq he), x_mdm hp, x_dt' (show n ≤ n + j by omega), e1, show n + j - n = j by omega]
          exact Or.inr (o2 (fun y => z (hxy.2 y)))
end XPW
