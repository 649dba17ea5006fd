/-! PURE: the form of a sum -/
theorem x_mb {S n i : Nat} : (S % 2 ^ n).testBit i = (decide (i < n) && S.testBit i) := Nat.testBit_mod_two_pow S n i
theorem x_db {S n i : Nat} : (S / 2 ^ n).testBit i = S.testBit (n + i) := by
  rw [← Nat.shiftRight_eq_div_pow, Nat.testBit_shiftRight]
theorem x_mt {S n e : Nat} (h : e < n) : x_t S e % 2 ^ n = x_t (S % 2 ^ n) e := by
  apply Nat.eq_of_testBit_eq
  intro i
  rw [x_mb]
  by_cases q : i = e
  · rw [q, x_tbs, x_tbs, x_mb, decide_eq_true h]; rfl
  · rw [x_tbn q, x_tbn q, x_mb]
theorem x_mt' {S n e : Nat} (h : n ≤ e) : x_t S e % 2 ^ n = S % 2 ^ n := by
  apply Nat.eq_of_testBit_eq
  intro i
  rw [x_mb, x_mb]
  by_cases q : i = e
  · rw [q, decide_eq_false (show ¬ e < n by omega)]; rfl
  · rw [x_tbn q]
theorem x_dt {S n e : Nat} (h : e < n) : x_t S e / 2 ^ n = S / 2 ^ n := by
  apply Nat.eq_of_testBit_eq
  intro i
  rw [x_db, x_db, x_tbn (by omega)]
theorem x_dt' {S n e : Nat} (h : n ≤ e) : x_t S e / 2 ^ n = x_t (S / 2 ^ n) (e - n) := by
  apply Nat.eq_of_testBit_eq
  intro i
  rw [x_db]
  by_cases q : i = e - n
  · rw [q, show n + (e - n) = e by omega, x_tbs, x_tbs, x_db, show n + (e - n) = e by omega]
  · rw [x_tbn (by omega), x_tbn q, x_db]
/-- above e: in the first part, in the second -/
theorem x_odm {S n e : Nat} (hn : n ≤ 12) (he : e < n) : x_od S e = (x_od (S % 2 ^ n) e ^^ x_xs 12 (fun i => decide (n ≤ i) && S.testBit i)) := by
  unfold x_od
  rw [← x_xsx]
  refine x_xsc 12 (fun i _ => ?_)
  rw [x_mb]
  by_cases q : i < n
  · rw [decide_eq_true q, decide_eq_false (show ¬ n ≤ i by omega)]
    cases decide (e < i) <;> cases S.testBit i <;> rfl
  · rw [decide_eq_false q, decide_eq_true (show n ≤ i by omega), decide_eq_true (show e < i by omega)]
    cases S.testBit i <;> rfl
theorem x_odd {S n e : Nat} (hn : n ≤ 12) (hS : S < 2 ^ 12) (he : n ≤ e) : x_od S e = x_od (S / 2 ^ n) (e - n) := by
  unfold x_od
  have h1 : ∀ m, x_xs (n + m) (fun i => decide (e < i) && S.testBit i) = x_xs m (fun i => decide (e - n < i) && (S / 2 ^ n).testBit i) := by
    intro m
    induction m with
    | zero => exact x_xs0 n (fun i hi => by rw [decide_eq_false (show ¬ e < i by omega)]; rfl)
    | succ m ih =>
      show (x_xs (n + m) (fun i => decide (e < i) && S.testBit i) ^^ (decide (e < n + m) && S.testBit (n + m))) = (x_xs m (fun i => decide (e - n < i) && (S / 2 ^ n).testBit i) ^^ (decide (e - n < m) && (S / 2 ^ n).testBit m))
      rw [ih, x_db]
      congr 2
      by_cases q : e < n + m
      · rw [decide_eq_true q, decide_eq_true (show e - n < m by omega)]
      · rw [decide_eq_false q, decide_eq_false (show ¬ e - n < m by omega)]
  have h2 := h1 (12 - n)
  rw [show n + (12 - n) = 12 by omega] at h2
  rw [h2]
  have := x_xsm (f := fun i => decide (e - n < i) && (S / 2 ^ n).testBit i) (n := 12 - n) n (fun i h3 h4 => by rw [x_db, x_hi hS (show 12 ≤ n + i by omega), Bool.and_false])
  rw [show 12 - n + n = 12 by omega] at this
  exact this.symm
def x_fj {R : Type} [Lean.Grind.CommRing R] (n m : Nat) (f g : Nat → R) (S : Nat) : R := if S < 2 ^ (n + m) then f (S % 2 ^ n) * g (S / 2 ^ n) else 0
theorem x_fjn {R : Type} [Lean.Grind.CommRing R] {n m S : Nat} {f g : Nat → R} (h : ¬ x_fj n m f g S = 0) : S < 2 ^ (n + m) ∧ ¬ f (S % 2 ^ n) = 0 ∧ ¬ g (S / 2 ^ n) = 0 := by
  unfold x_fj at h
  by_cases q : S < 2 ^ (n + m)
  · rw [if_pos q] at h
    exact ⟨q, fun z => h (by rw [z]; grind), fun z => h (by rw [z]; grind)⟩
  · rw [if_neg q] at h
    exact absurd rfl h
theorem x_fjE {R : Type} [Lean.Grind.CommRing R] (hd : x_dom R) {P Q P' : (Nat → R) → Prop} {f g : Nat → R} {n m r t : Nat} (hn : n + m ≤ 12) (hc' : x_cl P') (h2 : x_E2 P f) (h3 : x_E3 P f) (k2 : x_E2 Q g) (k3 : x_E3 Q g)
    (z1 : ∀ S, ¬ f S = 0 → x_n S = r) (z2 : ∀ S, ¬ g S = 0 → x_n S = t)
    (hP : ∀ v, P v → P' (fun j => if j < n then v j else 0)) (hQ : ∀ v, Q v → P' (fun j => if n ≤ j ∧ j < n + m then v (j - n) else 0))
    (hP' : ∀ v, P' v → P (fun j => if j < n then v j else 0) ∧ Q (fun j => if j < m then v (n + j) else 0) ∧ (∀ e, e < 12 → n + m ≤ e → v e = 0)) : x_E2 P' (x_fj n m f g) ∧ x_E3 P' (x_fj n m f g) := by
  constructor
  · intro S e hS he be
    obtain ⟨hl, h1, h2'⟩ := x_fjn hS
    have hl12 : S < 2 ^ 12 := Nat.lt_of_lt_of_le hl (Nat.pow_le_pow_right (by decide) hn)
    have hen : e < n + m := by
      refine Classical.byContradiction (fun q => ?_)
      rw [x_hi hl (show n + m ≤ e by omega)] at be
      exact Bool.noConfusion be
    have big : ∀ j, n + m ≤ j → j < 12 → x_u (x_fj n m f g) (x_t S e) j = 0 := by
      intro j hj hj2
      unfold x_u x_fj
      rw [x_tbn (show j ≠ e by omega), x_hi hl hj, if_neg (by simp), if_neg (fun hlt => ?_)]
      · grind
      · have h5 := x_hi hlt hj
        rw [x_tbs, x_tbn (show j ≠ e by omega), x_hi hl hj] at h5
        exact Bool.noConfusion h5
    by_cases q : e < n
    · have bm : (S % 2 ^ n).testBit e = true := by rw [x_mb, decide_eq_true q, be]; rfl
      have f0 : f (x_t (S % 2 ^ n) e) = 0 := by
        refine Classical.byContradiction (fun hz => ?_)
        have a1 := z1 _ hz
        have a2 := z1 _ h1
        have a3 := x_nt1 he bm
        omega
      refine hc'.2.2.1 _ _ (fun j hj => ?_) (x_clm hc' (x_s R (x_xs 12 (fun i => decide (n ≤ i) && S.testBit i)) * g (S / 2 ^ n)) (hP _ (h2 _ e h1 he bm)))
      by_cases q2 : j < n
      · simp only [if_pos q2]
        unfold x_u x_fj
        rw [← x_mt q, x_mb, decide_eq_true q2, Bool.true_and]
        by_cases b : (x_t S e).testBit j = true
        · rw [if_pos b, if_pos b]; grind
        · rw [if_neg b, if_neg b, if_pos (x_tl (x_tl hl hen) (show j < n + m by omega)), x_mt q2, x_dt q2, x_dt q, x_odm (S := x_t S e) (by omega) q2, x_sx]
          have : x_xs 12 (fun i => decide (n ≤ i) && (x_t S e).testBit i) = x_xs 12 (fun i => decide (n ≤ i) && S.testBit i) := x_xsc 12 (fun i _ => by
            by_cases q3 : n ≤ i
            · rw [x_tbn (show i ≠ e by omega)]
            · rw [decide_eq_false q3]; rfl)
          rw [this]
          grind
      · simp only [if_neg q2]
        by_cases q3 : j < n + m
        · unfold x_u x_fj
          by_cases b : (x_t S e).testBit j = true
          · rw [if_pos b]; grind
          · rw [if_neg b, if_pos (x_tl (x_tl hl hen) q3), x_mt' (show n ≤ j by omega), x_mt q, f0]; grind
        · rw [big j (by omega) hj]; grind
    · have bm : (S / 2 ^ n).testBit (e - n) = true := by rw [x_db, show n + (e - n) = e by omega, be]
      have g0 : g (x_t (S / 2 ^ n) (e - n)) = 0 := by
        refine Classical.byContradiction (fun hz => ?_)
        have a1 := z2 _ hz
        have a2 := z2 _ h2'
        have a3 := x_nt1 (show e - n < 12 by omega) bm
        omega
      refine hc'.2.2.1 _ _ (fun j hj => ?_) (x_clm hc' (f (S % 2 ^ n)) (hQ _ (k2 _ (e - n) h2' (by omega) bm)))
      by_cases q2 : j < n
      · simp only [if_neg (show ¬ (n ≤ j ∧ j < n + m) by omega)]
        unfold x_u x_fj
        by_cases b : (x_t S e).testBit j = true
        · rw [if_pos b]; grind
        · rw [if_neg b, if_pos (x_tl (x_tl hl hen) (show j < n + m by omega)), x_dt q2, x_dt' (show n ≤ e by omega), g0]; grind
      · by_cases q3 : j < n + m
        · simp only [if_pos (show n ≤ j ∧ j < n + m by omega)]
          unfold x_u x_fj
          rw [← x_dt' (show n ≤ e by omega), x_db, show n + (j - n) = j by omega]
          by_cases b : (x_t S e).testBit j = true
          · rw [if_pos b, if_pos b]; grind
          · rw [if_neg b, if_neg b, if_pos (x_tl (x_tl hl hen) q3), x_mt' (show n ≤ j by omega), x_mt' (show n ≤ e by omega), x_dt' (show n ≤ j by omega), x_odd (S := x_t S e) (by omega) (x_tl hl12 he) (show n ≤ j by omega)]
            grind
        · simp only [if_neg (show ¬ (n ≤ j ∧ j < n + m) by omega)]
          rw [big j (by omega) hj]; grind
  · intro S v hS hv h0 j hj
    obtain ⟨hl, h1, h2'⟩ := x_fjn hS
    obtain ⟨p1, p2, p3⟩ := hP' v hv
    by_cases q : j < n
    · have := h3 _ _ h1 p1 (fun e he be => ?_) j hj
      · simp only [if_pos q] at this
        exact this
      · rw [x_mb] at be
        by_cases q2 : e < n
        · rw [decide_eq_true q2, Bool.true_and] at be
          simp only [if_pos q2]
          exact h0 e he be
        · rw [decide_eq_false q2] at be; exact Bool.noConfusion be
    · by_cases q2 : j < n + m
      · have := k3 _ _ h2' p2 (fun e he be => ?_) (j - n) (by omega)
        · simp only [if_pos (show j - n < m by omega), show n + (j - n) = j by omega] at this
          exact this
        · rw [x_db] at be
          by_cases q3 : e < m
          · simp only [if_pos q3]
            exact h0 (n + e) (by omega) be
          · simp only [if_neg q3]
      · exact p3 j hj (by omega)
