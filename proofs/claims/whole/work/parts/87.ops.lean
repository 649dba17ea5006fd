/-! PURE: what becomes of forms: the dual, a sum, what is left when a set goes -/
/-- the product of two rows -/
def x_dot {R : Type} [Lean.Grind.CommRing R] (u v : Nat → R) : R := x_sm 12 (fun e => u e * v e)
theorem x_dotc {R : Type} [Lean.Grind.CommRing R] (hd : x_dom R) (v : Nat → R) : x_cl (fun u => x_dot u v = 0) := by
  refine ⟨?_, fun a b u w hu hw => ?_, fun u w he hu => ?_, fun c u hc hu => ?_⟩
  · exact x_sm0 12 (fun e _ => by grind)
  · have : x_dot (fun e => a * u e + b * w e) v = a * x_dot u v + b * x_dot w v := by
      unfold x_dot
      rw [← x_smm, ← x_smm, ← x_sma]
      exact x_smc 12 (fun e _ => by grind)
    have hu : x_dot u v = 0 := hu
    have hw : x_dot w v = 0 := hw
    show x_dot (fun e => a * u e + b * w e) v = 0
    rw [this, hu, hw]; grind
  · have hu : x_dot u v = 0 := hu
    show x_dot w v = 0
    rw [← hu]
    exact x_smc 12 (fun e h => by rw [he e h])
  · have : x_dot (fun e => c * u e) v = c * x_dot u v := by
      unfold x_dot
      rw [← x_smm]
      exact x_smc 12 (fun e _ => by grind)
    have hu : x_dot (fun e => c * u e) v = 0 := hu
    rw [this] at hu
    exact (hd.1 _ _ hu).resolve_left hc
theorem x_dots {R : Type} [Lean.Grind.CommRing R] (u v : Nat → R) : x_dot u v = x_dot v u := x_smc 12 (fun e _ => by grind)
/-- a space comes of what a form leaves over at one basis -/
theorem x_gen {R : Type} [Lean.Grind.CommRing R] {P Q : (Nat → R) → Prop} {f : Nat → R} (hc : x_cl P) (h2 : x_E2 P f) (h3 : x_E3 P f) (hq : x_cl Q) {B : Nat} (hB : ¬ f B = 0) (hQ : ∀ e, e < 12 → B.testBit e = true → Q (x_u f (x_t B e))) {u : Nat → R} (hu : P u) : Q u := by
  have key : ∀ {W : (Nat → R) → Prop}, x_cl W → (∀ e, e < 12 → B.testBit e = true → W (x_u f (x_t B e))) → W (fun g => x_sm 12 (fun e => if B.testBit e = true then x_s R (x_od (x_t B e) e) * u e * x_u f (x_t B e) g else 0)) := by
    intro W hw hW
    refine x_cls hw (fun e g => if B.testBit e = true then x_s R (x_od (x_t B e) e) * u e * x_u f (x_t B e) g else 0) 12 (fun e he => ?_)
    by_cases q : B.testBit e = true
    · refine hw.2.2.1 _ _ (fun g _ => ?_) (x_clm hw (x_s R (x_od (x_t B e) e) * u e) (hW e he q))
      simp only [if_pos q]
    · refine hw.2.2.1 _ _ (fun g _ => ?_) hw.1
      simp only [if_neg q]
  have hp := hc.2.1 (f B) (-1) _ _ hu (key hc (fun e he be => h2 B e hB he be))
  have h0 := h3 B _ hB hp (fun g hg bg => ?_)
  · refine hq.2.2.2 (f B) u hB (hq.2.2.1 _ _ (fun g hg => ?_) (key hq hQ))
    have := h0 g hg
    grind
  · rw [x_sm1 (k := g) 12 hg (fun e he hn => ?_)]
    · rw [if_pos bg]
      unfold x_u
      rw [x_tbs, bg, if_neg (by simp), x_tt]
      have := x_ss (R := R) (x_od (x_t B g) g)
      grind
    · by_cases q : B.testBit e = true
      · rw [if_pos q]
        unfold x_u
        rw [x_tbn (fun z : g = e => hn z.symm), if_pos bg]; grind
      · rw [if_neg q]
/-- a set within the first n elements -/
theorem x_hi {S n i : Nat} (h : S < 2 ^ n) (hi : n ≤ i) : S.testBit i = false := Nat.testBit_lt_two_pow (Nat.lt_of_lt_of_le h (Nat.pow_le_pow_right (by decide) hi))
theorem x_lo {S n : Nat} (hn : n ≤ 12) (h : ∀ i, i < 12 → n ≤ i → S.testBit i = false) (hS : S < 2 ^ 12) : S < 2 ^ n := by
  apply Nat.lt_pow_two_of_testBit
  intro i hi
  by_cases q : i < 12
  · exact h i q hi
  · exact x_hi hS (by omega)
/-- the others of n -/
def x_co (n S : Nat) : Nat := (2 ^ n - 1) ^^^ S
theorem x_cob {n S i : Nat} (hi : i < n) : (x_co n S).testBit i = !S.testBit i := by
  unfold x_co
  rw [Nat.testBit_xor, Nat.testBit_two_pow_sub_one, decide_eq_true hi]; simp
theorem x_col {n S : Nat} (h : S < 2 ^ n) : x_co n S < 2 ^ n := Nat.xor_lt_two_pow (Nat.sub_lt (Nat.two_pow_pos n) (by decide)) h
theorem x_coco {n S : Nat} : x_co n (x_co n S) = S := by
  unfold x_co
  rw [← Nat.xor_assoc, Nat.xor_self, Nat.zero_xor]
theorem x_cot {n S e : Nat} : x_co n (x_t S e) = x_t (x_co n S) e := by
  unfold x_co x_t
  rw [Nat.xor_assoc]
/-- whether an odd number of a set's elements are odd -/
def x_oe (S : Nat) : Bool := x_xs 12 (fun i => S.testBit i && decide (i % 2 = 1))
theorem x_oet {S e : Nat} (he : e < 12) : x_oe (x_t S e) = (x_oe S ^^ decide (e % 2 = 1)) := by
  unfold x_oe
  have h1 : x_xs 12 (fun i => (x_t S e).testBit i && decide (i % 2 = 1)) = x_xs 12 (fun i => (S.testBit i && decide (i % 2 = 1)) ^^ (decide (e = i) && decide (i % 2 = 1))) :=
    x_xsc 12 (fun i _ => by rw [x_tb]; cases S.testBit i <;> cases decide (e = i) <;> cases decide (i % 2 = 1) <;> rfl)
  have h2 : x_xs 12 (fun i => decide (e = i) && decide (i % 2 = 1)) = (decide (e = e) && decide (e % 2 = 1)) := x_xs1 (f := fun i => decide (e = i) && decide (i % 2 = 1)) (k := e) 12 he (fun i _ hn => by
    show (decide (e = i) && decide (i % 2 = 1)) = false
    rw [decide_eq_false (fun q : e = i => hn q.symm)]; rfl)
  rw [h1, x_xsx, h2]
  simp
/-- above e in a set and in the others of n -/
theorem x_odco {n S e : Nat} (hn : n ≤ 12) (hS : S < 2 ^ n) (he : e < n) : (x_od S e ^^ x_od (x_co n S) e) = decide ((n - 1 - e) % 2 = 1) := by
  unfold x_od
  rw [← x_xsx]
  have h1 : x_xs 12 (fun i => (decide (e < i) && S.testBit i) ^^ (decide (e < i) && (x_co n S).testBit i)) = x_xs 12 (fun i => decide (e < i ∧ i < n)) := x_xsc 12 (fun i hi => by
    by_cases q : i < n
    · rw [x_cob q]
      by_cases q2 : e < i
      · rw [decide_eq_true q2, decide_eq_true (show e < i ∧ i < n from ⟨q2, q⟩)]
        cases S.testBit i <;> rfl
      · rw [decide_eq_false q2, decide_eq_false (show ¬ (e < i ∧ i < n) from fun h => q2 h.1)]
        rfl
    · rw [x_hi hS (show n ≤ i by omega), x_hi (x_col hS) (show n ≤ i by omega), decide_eq_false (show ¬ (e < i ∧ i < n) from fun h => q h.2)]
      cases decide (e < i) <;> rfl)
  rw [h1]
  have h2 : ∀ m, x_xs m (fun i => decide (e < i ∧ i < n)) = decide ((min m n - 1 - e) % 2 = 1) := by
    intro m
    induction m with
    | zero =>
      show false = _
      exact (decide_eq_false (by omega)).symm
    | succ m ih =>
      show (x_xs m (fun i => decide (e < i ∧ i < n)) ^^ decide (e < m ∧ m < n)) = _
      rw [ih]
      by_cases q : e < m ∧ m < n
      · rw [decide_eq_true q]
        by_cases q3 : (min m n - 1 - e) % 2 = 1
        · rw [decide_eq_true q3, decide_eq_false (show ¬ (min (m + 1) n - 1 - e) % 2 = 1 by omega)]; rfl
        · rw [decide_eq_false q3, decide_eq_true (show (min (m + 1) n - 1 - e) % 2 = 1 by omega)]; rfl
      · rw [decide_eq_false q, Bool.xor_false]
        congr 1
        apply propext
        constructor <;> intro h <;> omega
  rw [h2, show min 12 n = n by omega]
/-- the dual's form -/
def x_fd {R : Type} [Lean.Grind.CommRing R] (n : Nat) (f : Nat → R) (S : Nat) : R := if S < 2 ^ n then x_s R (x_oe S) * f (x_co n S) else 0
theorem x_fdn {R : Type} [Lean.Grind.CommRing R] {n S : Nat} {f : Nat → R} (h : ¬ x_fd n f S = 0) : S < 2 ^ n ∧ ¬ f (x_co n S) = 0 := by
  unfold x_fd at h
  by_cases q : S < 2 ^ n
  · rw [if_pos q] at h
    exact ⟨q, fun z => h (by rw [z]; grind)⟩
  · rw [if_neg q] at h
    exact absurd rfl h
theorem x_nco {n S : Nat} (hn : n ≤ 12) (hS : S < 2 ^ n) : x_n S + x_n (x_co n S) = n := by
  have h : ∀ m, m ≤ n → x_cn m (fun i => S.testBit i) + x_cn m (fun i => (x_co n S).testBit i) = m := by
    intro m
    induction m with
    | zero => intro _; rfl
    | succ m ih =>
      intro hm
      have := ih (by omega)
      show x_cn m _ + (if S.testBit m = true then 1 else 0) + (x_cn m _ + (if (x_co n S).testBit m = true then 1 else 0)) = m + 1
      rw [x_cob (show m < n by omega)]
      cases S.testBit m <;> simp <;> omega
  have hi : ∀ (T : Nat), T < 2 ^ n → ∀ m, x_cn (n + m) (fun i => T.testBit i) = x_cn n (fun i => T.testBit i) := by
    intro T hT m
    induction m with
    | zero => rfl
    | succ m ih =>
      show x_cn (n + m) _ + (if T.testBit (n + m) = true then 1 else 0) = _
      rw [ih, x_hi hT (show n ≤ n + m by omega)]; simp
  unfold x_n
  have h1 := hi S hS (12 - n)
  have h2 := hi _ (x_col hS) (12 - n)
  rw [show n + (12 - n) = 12 by omega] at h1 h2
  rw [h1, h2]
  exact h n (Nat.le_refl n)
theorem x_fdE {R : Type} [Lean.Grind.CommRing R] (hd : x_dom R) {P P' : (Nat → R) → Prop} {f : Nat → R} {n : Nat} (hn : n ≤ 12) (hc : x_cl P) (h2 : x_E2 P f) (h3 : x_E3 P f) (z : ∀ S, ¬ f S = 0 → S < 2 ^ n)
    (hP : ∀ v, (∀ u, P u → x_dot u v = 0) → (∀ e, e < 12 → n ≤ e → v e = 0) → P' v) (hP' : ∀ v, P' v → (∀ u, P u → x_dot u v = 0) ∧ (∀ e, e < 12 → n ≤ e → v e = 0)) : x_E2 P' (x_fd n f) ∧ x_E3 P' (x_fd n f) := by
  constructor
  · intro S e hS he be
    obtain ⟨hl, hB⟩ := x_fdn hS
    have hen : e < n := by
      refine Classical.byContradiction (fun q => ?_)
      rw [x_hi hl (show n ≤ e by omega)] at be
      exact Bool.noConfusion be
    refine hP _ (fun u hu => x_gen (Q := fun u => x_dot u (x_u (x_fd n f) (x_t S e)) = 0) hc h2 h3 (x_dotc hd _) hB (fun g hg bg => ?_) hu) (fun g hg hgn => ?_)
    · have hgn : g < n := by
        refine Classical.byContradiction (fun q => ?_)
        rw [x_hi (x_col hl) (show n ≤ g by omega)] at bg
        exact Bool.noConfusion bg
      have bgS : S.testBit g = false := by
        rw [x_cob hgn] at bg
        cases h : S.testBit g
        · rfl
        · rw [h] at bg; exact Bool.noConfusion bg
      have heg : e ≠ g := fun q => by rw [q, bgS] at be; exact Bool.noConfusion be
      have beB : (x_co n S).testBit e = false := by rw [x_cob hen, be]; rfl
      show x_dot (x_u f (x_t (x_co n S) g)) (x_u (x_fd n f) (x_t S e)) = 0
      unfold x_dot
      rw [x_sm2 (k := g) (l := e) 12 hg he (fun q => heg q.symm) (fun i hi h1 h2 => ?_)]
      · have e1 : x_u f (x_t (x_co n S) g) g = x_s R (x_od (x_t (x_co n S) g) g) * f (x_co n S) := by
          unfold x_u; rw [x_tbs, bg, if_neg (by simp), x_tt]
        have e2 : x_u f (x_t (x_co n S) g) e = x_s R (x_od (x_t (x_co n S) g) e) * f (x_t (x_t (x_co n S) g) e) := by
          unfold x_u; rw [x_tbn heg, beB, if_neg (by simp)]
        have e3 : x_u (x_fd n f) (x_t S e) g = x_s R (x_od (x_t S e) g) * (x_s R (x_oe (x_t (x_t S e) g)) * f (x_t (x_t (x_co n S) e) g)) := by
          unfold x_u x_fd
          rw [x_tbn (fun q => heg q.symm), bgS, if_neg (by simp), if_pos (x_tl (x_tl hl hen) hgn), x_cot, x_cot]
        have e4 : x_u (x_fd n f) (x_t S e) e = x_s R (x_od (x_t S e) e) * (x_s R (x_oe S) * f (x_co n S)) := by
          unfold x_u x_fd
          rw [x_tbs, be, if_neg (by simp), x_tt, if_pos hl]
        rw [e1, e2, e3, e4, x_odt g hg, x_odt e hg, x_odt g he, x_odt e he, x_oet hg, x_oet he, x_tc (x_co n S) e g]
        have p1 := x_odco (S := S) hn hl hgn
        have p2 := x_odco (S := S) hn hl hen
        have hx : x_s R (x_od (x_co n S) g ^^ decide (g < g)) * x_s R (x_od S g ^^ decide (g < e)) * (x_s R ((x_oe S ^^ decide (e % 2 = 1)) ^^ decide (g % 2 = 1))) + x_s R (x_od (x_co n S) e ^^ decide (e < g)) * x_s R (x_od S e ^^ decide (e < e)) * x_s R (x_oe S) = 0 := by
          rw [← x_sx, ← x_sx, ← x_sx, ← x_sx]
          have par : (((x_od (x_co n S) g ^^ decide (g < g)) ^^ (x_od S g ^^ decide (g < e))) ^^ ((x_oe S ^^ decide (e % 2 = 1)) ^^ decide (g % 2 = 1))) = !(((x_od (x_co n S) e ^^ decide (e < g)) ^^ (x_od S e ^^ decide (e < e))) ^^ x_oe S) := by
            have q1 : x_od (x_co n S) g = (decide ((n - 1 - g) % 2 = 1) ^^ x_od S g) := by rw [← p1]; cases x_od S g <;> cases x_od (x_co n S) g <;> rfl
            have q2 : x_od (x_co n S) e = (decide ((n - 1 - e) % 2 = 1) ^^ x_od S e) := by rw [← p2]; cases x_od S e <;> cases x_od (x_co n S) e <;> rfl
            rw [q1, q2, decide_eq_false (Nat.lt_irrefl g), decide_eq_false (Nat.lt_irrefl e)]
            have q3 : (((decide ((n - 1 - g) % 2 = 1) ^^ decide (g < e)) ^^ decide (e % 2 = 1)) ^^ decide (g % 2 = 1)) = !(decide ((n - 1 - e) % 2 = 1) ^^ decide (e < g)) := by
              rcases Nat.lt_or_gt_of_ne heg with h | h
              · rw [decide_eq_true h, decide_eq_false (show ¬ g < e by omega)]
                by_cases a1 : (n - 1 - g) % 2 = 1 <;> by_cases a2 : (n - 1 - e) % 2 = 1 <;> by_cases a3 : e % 2 = 1 <;> by_cases a4 : g % 2 = 1 <;> first | omega | (simp only [a1, a2, a3, a4]; rfl)
              · rw [decide_eq_true h, decide_eq_false (show ¬ e < g by omega)]
                by_cases a1 : (n - 1 - g) % 2 = 1 <;> by_cases a2 : (n - 1 - e) % 2 = 1 <;> by_cases a3 : e % 2 = 1 <;> by_cases a4 : g % 2 = 1 <;> first | omega | (simp only [a1, a2, a3, a4]; rfl)
            revert q3
            cases decide ((n - 1 - g) % 2 = 1) <;> cases decide (g < e) <;> cases decide (e % 2 = 1) <;> cases decide (g % 2 = 1) <;> cases decide ((n - 1 - e) % 2 = 1) <;> cases decide (e < g) <;> cases x_od S g <;> cases x_od S e <;> cases x_oe S <;> decide
          rw [par]
          cases (((x_od (x_co n S) e ^^ decide (e < g)) ^^ (x_od S e ^^ decide (e < e))) ^^ x_oe S)
          · show (-1 : R) + 1 = 0; grind
          · show (1 : R) + -1 = 0; grind
        grind
      · by_cases q : S.testBit i = true
        · have : x_u (x_fd n f) (x_t S e) i = 0 := by unfold x_u; rw [x_tbn h2, q, if_pos rfl]
          rw [this]; grind
        · by_cases hin : i < n
          · have : x_u f (x_t (x_co n S) g) i = 0 := by
              unfold x_u
              rw [x_tbn h1, x_cob hin]
              cases hh : S.testBit i
              · exact if_pos rfl
              · exact absurd hh q
            rw [this]; grind
          · have : x_u (x_fd n f) (x_t S e) i = 0 := by
              unfold x_u x_fd
              rw [if_neg (show ¬ x_t (x_t S e) i < 2 ^ n from fun hlt => ?_)]
              · split <;> grind
              · have h5 := x_hi hlt (show n ≤ i by omega)
                rw [x_tbs, x_tbn h2] at h5
                cases hh : S.testBit i
                · rw [hh] at h5; exact Bool.noConfusion h5
                · exact q hh
            rw [this]; grind
    · unfold x_u x_fd
      by_cases q : (x_t S e).testBit g = true
      · rw [if_pos q]
      · rw [if_neg q, if_neg (show ¬ x_t (x_t S e) g < 2 ^ n from fun hlt => ?_)]
        · grind
        · have h5 := x_hi hlt hgn
          rw [x_tbs] at h5
          cases hh : (x_t S e).testBit g
          · rw [hh] at h5; exact Bool.noConfusion h5
          · exact q hh
  · intro S v hS hv h0 g hg
    obtain ⟨hl, hB⟩ := x_fdn hS
    obtain ⟨ho, hz⟩ := hP' v hv
    by_cases hgn : g < n
    · by_cases q : S.testBit g = true
      · exact h0 g hg q
      · have bg : (x_co n S).testBit g = true := by
          rw [x_cob hgn]
          cases hh : S.testBit g
          · rfl
          · exact absurd hh q
        have h1 := ho _ (h2 _ g hB hg bg)
        unfold x_dot at h1
        rw [x_sm1 (k := g) 12 hg (fun i hi hn2 => ?_)] at h1
        · have e1 : x_u f (x_t (x_co n S) g) g = x_s R (x_od (x_t (x_co n S) g) g) * f (x_co n S) := by
            unfold x_u; rw [x_tbs, bg, if_neg (by simp), x_tt]
          rw [e1] at h1
          have h3 : x_s R (x_od (x_t (x_co n S) g) g) * (f (x_co n S) * v g) = 0 := by grind
          exact (hd.1 _ _ (x_sne h3)).resolve_left hB
        · by_cases hin : i < n
          · by_cases q2 : S.testBit i = true
            · rw [h0 i hi q2]; grind
            · have : x_u f (x_t (x_co n S) g) i = 0 := by
                unfold x_u
                rw [x_tbn hn2, x_cob hin]
                cases hh : S.testBit i
                · exact if_pos rfl
                · exact absurd hh q2
              rw [this]; grind
          · rw [hz i hi (by omega)]; grind
    · exact hz g hg (by omega)
