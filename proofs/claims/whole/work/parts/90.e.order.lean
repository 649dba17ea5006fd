/-! PURE: all sets in ORDER -/
def x_lst : Nat → Nat → Nat → List Nat
  | 0, _, s => [s]
  | k + 1, f, s => (List.range (12 - k - f)).flatMap (fun d => x_lst k (f + d + 1) (s ||| 2 ^ (f + d)))
def x_L : List Nat := (List.range 13).flatMap (fun m => x_lst m 0 0)
/-- where a set stands: fewer elements first; of as many the one with the least element that only one has -/
def x_rev (S : Nat) : Nat := x_cn2 12 S
where x_cn2 : Nat → Nat → Nat
  | 0, _ => 0
  | k + 1, S => 2 * x_cn2 k S + (if S.testBit k = true then 1 else 0)
def x_key (S : Nat) : Nat := x_n S * 4096 + (4095 - x_rev S)
def x_srt : List Nat → Bool
  | [] => true
  | [_] => true
  | a :: b :: t => decide (x_key a < x_key b) && x_srt (b :: t)
set_option maxRecDepth 100000 in
theorem x_Lsrt : x_srt x_L = true := by decide +kernel
set_option maxRecDepth 100000 in
theorem x_Llen : x_L.length = 4096 := by decide +kernel
theorem x_srtP : ∀ (l : List Nat), x_srt l = true → l.Pairwise (fun a b => x_key a < x_key b)
  | [], _ => List.Pairwise.nil
  | [a], _ => List.pairwise_singleton _ _
  | a :: b :: t, h => by
    have h : (decide (x_key a < x_key b) && x_srt (b :: t)) = true := h
    rw [Bool.and_eq_true] at h
    have ih := x_srtP (b :: t) h.2
    refine List.Pairwise.cons (fun c hc => ?_) ih
    have h1 : x_key a < x_key b := by simpa using h.1
    rcases List.mem_cons.mp hc with e | e
    · rw [e]; exact h1
    · have := (List.pairwise_cons.mp ih).1 c e
      omega
theorem x_Lp : x_L.Pairwise (fun a b => x_key a < x_key b) := x_srtP _ x_Lsrt
theorem x_lstm : ∀ (k f s S : Nat), f ≤ 12 → (∀ i, s.testBit i = true → i < f) → (S ∈ x_lst k f s ↔ ((∀ i, i < f → S.testBit i = s.testBit i) ∧ S < 2 ^ 12 ∧ x_cn 12 (fun i => decide (f ≤ i) && S.testBit i) = k))
  | 0, f, s, S, hf, hs => by
    show S ∈ [s] ↔ _
    rw [List.mem_singleton]
    constructor
    · intro e
      subst e
      refine ⟨fun _ _ => rfl, Nat.lt_pow_two_of_testBit _ (fun i hi => ?_), ?_⟩
      · cases hh : S.testBit i
        · rfl
        · have := hs i hh; omega
      · have : x_cn 12 (fun i => decide (f ≤ i) && S.testBit i) = x_cn 12 (fun _ => false) := x_cnc 12 (fun i _ => by
          by_cases q : f ≤ i
          · cases hh : S.testBit i
            · simp
            · have := hs i hh; omega
          · rw [decide_eq_false q]; rfl)
        rw [this]; rfl
    · rintro ⟨h1, h2, h3⟩
      apply Nat.eq_of_testBit_eq
      intro i
      by_cases q : i < f
      · exact h1 i q
      · have hsi : s.testBit i = false := by
          cases hh : s.testBit i
          · rfl
          · have := hs i hh; omega
        rw [hsi]
        by_cases q2 : i < 12
        · have := x_cnz 12 h3 i q2
          rw [decide_eq_true (show f ≤ i by omega)] at this
          simpa using this
        · exact x_hi h2 (by omega)
  | k + 1, f, s, S, hf, hs => by
    show S ∈ (List.range (12 - k - f)).flatMap (fun d => x_lst k (f + d + 1) (s ||| 2 ^ (f + d))) ↔ _
    rw [List.mem_flatMap]
    have hb : ∀ d i, (s ||| 2 ^ (f + d)).testBit i = true → i < f + d + 1 := by
      intro d i hi
      rw [Nat.testBit_or, Nat.testBit_two_pow] at hi
      by_cases z : f + d = i
      · omega
      · rw [decide_eq_false z, Bool.or_false] at hi
        have := hs i hi; omega
    constructor
    · rintro ⟨d, hd, hS⟩
      have hd := List.mem_range.mp hd
      obtain ⟨h1, h2, h3⟩ := (x_lstm k (f + d + 1) (s ||| 2 ^ (f + d)) S (by omega) (hb d)).mp hS
      have bit : ∀ i, i < f + d + 1 → S.testBit i = (s.testBit i || decide (f + d = i)) := fun i hi => by rw [h1 i hi, Nat.testBit_or, Nat.testBit_two_pow]
      refine ⟨fun i hi => by rw [bit i (by omega), decide_eq_false (show ¬ f + d = i by omega), Bool.or_false], h2, ?_⟩
      rw [← h3]
      refine x_cnf (k := f + d) 12 (by omega) ?_ ?_ (fun i hi hn => ?_)
      · show (decide (f ≤ f + d) && S.testBit (f + d)) = true
        rw [decide_eq_true (by omega), bit (f + d) (by omega), decide_eq_true rfl]; simp
      · show (decide (f + d + 1 ≤ f + d) && S.testBit (f + d)) = false
        rw [decide_eq_false (by omega)]; rfl
      · show (decide (f ≤ i) && S.testBit i) = (decide (f + d + 1 ≤ i) && S.testBit i)
        by_cases q : f + d + 1 ≤ i
        · rw [decide_eq_true q, decide_eq_true (show f ≤ i by omega)]
        · rw [decide_eq_false q]
          by_cases q2 : f ≤ i
          · rw [bit i (by omega), decide_eq_false (show ¬ f + d = i by omega)]
            cases hh : s.testBit i
            · simp
            · have := hs i hh; omega
          · rw [decide_eq_false q2]
    · rintro ⟨h1, h2, h3⟩
      -- the least element from f on
      have hex : ∃ e, (f ≤ e ∧ e < 12 ∧ S.testBit e = true) ∧ ∀ j, j < e → ¬ (f ≤ j ∧ j < 12 ∧ S.testBit j = true) := pk_least (fun e => f ≤ e ∧ e < 12 ∧ S.testBit e = true) (by
        refine Classical.byContradiction (fun hn => ?_)
        have : x_cn 12 (fun i => decide (f ≤ i) && S.testBit i) = x_cn 12 (fun _ => false) := x_cnc 12 (fun i hi => by
          by_cases q : f ≤ i
          · cases hh : S.testBit i
            · simp
            · exact absurd ⟨i, q, hi, hh⟩ hn
          · rw [decide_eq_false q]; rfl)
        have h0 : x_cn 12 (fun _ => false) = 0 := rfl
        omega)
      obtain ⟨e, ⟨he1, he2, he3⟩, hmin⟩ := hex
      have hcnt : x_cn 12 (fun i => decide (f ≤ i) && S.testBit i) = x_cn 12 (fun i => decide (e + 1 ≤ i) && S.testBit i) + 1 := by
        refine x_cnf (k := e) 12 he2 ?_ ?_ (fun i hi hn => ?_)
        · show (decide (f ≤ e) && S.testBit e) = true
          rw [decide_eq_true he1, he3]; rfl
        · show (decide (e + 1 ≤ e) && S.testBit e) = false
          rw [decide_eq_false (by omega)]; rfl
        · show (decide (f ≤ i) && S.testBit i) = (decide (e + 1 ≤ i) && S.testBit i)
          by_cases q : e + 1 ≤ i
          · rw [decide_eq_true q, decide_eq_true (show f ≤ i by omega)]
          · rw [decide_eq_false q]
            by_cases q2 : f ≤ i
            · cases hh : S.testBit i
              · simp
              · exact absurd ⟨q2, hi, hh⟩ (hmin i (by omega))
            · rw [decide_eq_false q2]
      have hk : x_cn 12 (fun i => decide (e + 1 ≤ i) && S.testBit i) ≤ 12 - (e + 1) := by
        have : ∀ m, x_cn m (fun i => decide (e + 1 ≤ i) && S.testBit i) ≤ m - (e + 1) := by
          intro m
          induction m with
          | zero => exact Nat.zero_le _
          | succ m ih =>
            show x_cn m _ + (if (decide (e + 1 ≤ m) && S.testBit m) = true then 1 else 0) ≤ m + 1 - (e + 1)
            by_cases q : e + 1 ≤ m
            · split <;> omega
            · rw [decide_eq_false q, Bool.false_and, if_neg (by simp)]; omega
        exact this 12
      refine ⟨e - f, List.mem_range.mpr (by omega), ?_⟩
      rw [show f + (e - f) = e by omega]
      have hb' := hb (e - f)
      rw [show f + (e - f) = e by omega] at hb'
      refine (x_lstm k (e + 1) (s ||| 2 ^ e) S (by omega) hb').mpr ⟨fun i hi => ?_, h2, by omega⟩
      rw [Nat.testBit_or, Nat.testBit_two_pow]
      by_cases z : e = i
      · rw [← z, he3, decide_eq_true rfl]; simp
      · rw [decide_eq_false z, Bool.or_false]
        by_cases q : i < f
        · exact h1 i q
        · have hsi : s.testBit i = false := by
            cases hh : s.testBit i
            · rfl
            · have := hs i hh; omega
          rw [hsi]
          cases hh : S.testBit i
          · rfl
          · exact absurd ⟨by omega, by omega, hh⟩ (hmin i (by omega))
theorem x_nle12 (S : Nat) : x_n S ≤ 12 := by
  have : ∀ m, x_cn m (fun i => S.testBit i) ≤ m := by
    intro m
    induction m with
    | zero => exact Nat.le_refl 0
    | succ m ih =>
      show x_cn m (fun i => S.testBit i) + _ ≤ m + 1
      split <;> omega
  exact this 12
theorem x_Lm (S : Nat) : S ∈ x_L ↔ S < 4096 := by
  unfold x_L
  rw [List.mem_flatMap]
  have e : ∀ m, S ∈ x_lst m 0 0 ↔ (S < 2 ^ 12 ∧ x_n S = m) := fun m => by
    rw [x_lstm m 0 0 S (by omega) (fun i hi => by rw [Nat.zero_testBit] at hi; exact Bool.noConfusion hi)]
    have : x_cn 12 (fun i => decide (0 ≤ i) && S.testBit i) = x_n S := x_cnc 12 (fun i _ => by rw [decide_eq_true (Nat.zero_le i)]; rfl)
    rw [this]
    exact ⟨fun h => h.2, fun h => ⟨fun i hi => by omega, h⟩⟩
  constructor
  · rintro ⟨m, _, h⟩
    exact ((e m).mp h).1
  · intro h
    exact ⟨x_n S, List.mem_range.mpr (by have := x_nle12 S; omega), (e _).mpr ⟨h, rfl⟩⟩
/-- those of n elements -/
def x_Ln (n : Nat) : List Nat := x_L.filter (fun S => decide (S < 2 ^ n))
theorem x_Lnm {n : Nat} (hn : n ≤ 12) (S : Nat) : S ∈ x_Ln n ↔ S < 2 ^ n := by
  unfold x_Ln
  rw [List.mem_filter, x_Lm]
  constructor
  · intro h; simpa using h.2
  · intro h; exact ⟨Nat.lt_of_lt_of_le h (Nat.pow_le_pow_right (by decide) hn), by simpa using h⟩
theorem x_Lnp (n : Nat) : (x_Ln n).Pairwise (fun a b => x_key a < x_key b) := List.Pairwise.filter _ x_Lp
set_option maxRecDepth 100000 in
theorem x_Lnl : ∀ n, n < 13 → (x_Ln n).length = 2 ^ n := by decide +kernel
