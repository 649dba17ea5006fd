/-! PURE: what becomes of forms: elements go, a sum -/
/-- a set moved: element j becomes k j -/
def x_sd : Nat → (Nat → Nat) → Nat → Nat
  | 0, _, _ => 0
  | n + 1, k, S => if S.testBit n = true then x_t (x_sd n k S) (k n) else x_sd n k S
/-- rising, below 12 -/
def x_up (n : Nat) (k : Nat → Nat) : Prop := (∀ i j, i < j → j < n → k i < k j) ∧ (∀ j, j < n → k j < 12)
theorem x_upi {n : Nat} {k : Nat → Nat} (h : x_up n k) {i j : Nat} (hi : i < n) (hj : j < n) (e : k i = k j) : i = j := by
  rcases Nat.lt_trichotomy i j with q | q | q
  · have := h.1 i j q hj; omega
  · exact q
  · have := h.1 j i q hi; omega
theorem x_upm {n m : Nat} {k : Nat → Nat} (h : x_up n k) (hm : m ≤ n) : x_up m k := ⟨fun i j hij hj => h.1 i j hij (by omega), fun j hj => h.2 j (by omega)⟩
theorem x_sdo {k : Nat → Nat} {S i : Nat} : ∀ (n : Nat), (∀ j, j < n → ¬ k j = i) → (x_sd n k S).testBit i = false
  | 0, _ => Nat.zero_testBit i
  | n + 1, h => by
    show (if S.testBit n = true then x_t (x_sd n k S) (k n) else x_sd n k S).testBit i = false
    have ih := x_sdo (k := k) (S := S) n (fun j hj => h j (by omega))
    by_cases q : S.testBit n = true
    · rw [if_pos q, x_tbn (fun e => h n (by omega) e.symm), ih]
    · rw [if_neg q, ih]
theorem x_sdb {k : Nat → Nat} {S : Nat} : ∀ (n : Nat), x_up n k → ∀ j, j < n → (x_sd n k S).testBit (k j) = S.testBit j
  | 0, _, j, hj => by omega
  | n + 1, h, j, hj => by
    show (if S.testBit n = true then x_t (x_sd n k S) (k n) else x_sd n k S).testBit (k j) = S.testBit j
    by_cases hjn : j = n
    · have h0 : (x_sd n k S).testBit (k n) = false := x_sdo n (fun i hi e => by have := h.1 i n hi (by omega); omega)
      rw [hjn]
      by_cases q : S.testBit n = true
      · rw [if_pos q, x_tbs, h0, q]; rfl
      · rw [if_neg q, h0]
        cases hh : S.testBit n
        · rfl
        · exact absurd hh q
    · have ih := x_sdb (k := k) (S := S) n (x_upm h (by omega)) j (by omega)
      have hne : k j ≠ k n := fun e => hjn (x_upi h hj (by omega) e)
      by_cases q : S.testBit n = true
      · rw [if_pos q, x_tbn hne, ih]
      · rw [if_neg q, ih]
theorem x_sdl {k : Nat → Nat} {S : Nat} : ∀ (n : Nat), x_up n k → x_sd n k S < 2 ^ 12
  | 0, _ => by show 0 < 2 ^ 12; decide
  | n + 1, h => by
    show (if S.testBit n = true then x_t (x_sd n k S) (k n) else x_sd n k S) < 2 ^ 12
    have ih := x_sdl (k := k) (S := S) n (x_upm h (by omega))
    by_cases q : S.testBit n = true
    · rw [if_pos q]; exact x_tl ih (h.2 n (by omega))
    · rw [if_neg q]; exact ih
theorem x_sdt {k : Nat → Nat} {S j n : Nat} (h : x_up n k) (hj : j < n) : x_sd n k (x_t S j) = x_t (x_sd n k S) (k j) := by
  refine x_ext (x_sdl n h) (x_tl (x_sdl n h) (h.2 j hj)) (fun i hi => ?_)
  by_cases q : ∃ m, m < n ∧ k m = i
  · obtain ⟨m, hm, rfl⟩ := q
    rw [x_sdb n h m hm]
    by_cases hmj : m = j
    · rw [hmj, x_tbs, x_tbs, x_sdb n h j hj]
    · rw [x_tbn hmj, x_tbn (fun e => hmj (x_upi h hm hj e)), x_sdb n h m hm]
  · rw [x_sdo n (fun m hm e => q ⟨m, hm, e⟩), x_tbn (fun e => q ⟨j, hj, e.symm⟩), x_sdo n (fun m hm e => q ⟨m, hm, e⟩)]
theorem x_sdod {k : Nat → Nat} {S j N : Nat} (h : x_up N k) (hj : j < N) : ∀ (n : Nat), n ≤ N → x_od (x_sd n k S) (k j) = x_xs n (fun i => decide (j < i) && S.testBit i)
  | 0, _ => by
    show x_od 0 (k j) = false
    exact x_xs0 12 (fun i _ => by rw [Nat.zero_testBit, Bool.and_false])
  | n + 1, hn => by
    show x_od (if S.testBit n = true then x_t (x_sd n k S) (k n) else x_sd n k S) (k j) = (x_xs n (fun i => decide (j < i) && S.testBit i) ^^ (decide (j < n) && S.testBit n))
    have ih := x_sdod (S := S) h hj n (by omega)
    by_cases q : S.testBit n = true
    · rw [if_pos q, x_odt (k j) (h.2 n (by omega)), ih, q, Bool.and_true]
      congr 1
      by_cases q2 : j < n
      · rw [decide_eq_true q2, decide_eq_true (h.1 j n q2 (by omega))]
      · rw [decide_eq_false q2, decide_eq_false (fun e => ?_)]
        by_cases q3 : j = n
        · rw [q3] at e; omega
        · have := h.1 n j (by omega) hj; omega
    · rw [if_neg q, ih]
      cases hh : S.testBit n
      · simp
      · exact absurd hh q
theorem x_xsm {f : Nat → Bool} {n : Nat} : ∀ (m : Nat), (∀ i, n ≤ i → i < n + m → f i = false) → x_xs (n + m) f = x_xs n f
  | 0, _ => rfl
  | m + 1, h => by
    show (x_xs (n + m) f ^^ f (n + m)) = _
    rw [x_xsm m (fun i h1 h2 => h i h1 (by omega)), h (n + m) (by omega) (by omega), Bool.xor_false]
theorem x_sdo12 {k : Nat → Nat} {S j n : Nat} (hn : n ≤ 12) (h : x_up n k) (hS : S < 2 ^ n) (hj : j < n) : x_od (x_sd n k S) (k j) = x_od S j := by
  rw [x_sdod h hj n (Nat.le_refl n)]
  unfold x_od
  have := x_xsm (f := fun i => decide (j < i) && S.testBit i) (n := n) (12 - n) (fun i h1 _ => by rw [x_hi hS h1, Bool.and_false])
  rw [show n + (12 - n) = 12 by omega] at this
  exact this.symm
/-- two sets together that have none together -/
theorem x_orod {S U e : Nat} (h : ∀ i, i < 12 → S.testBit i = true → U.testBit i = false) : x_od (S ||| U) e = (x_od S e ^^ x_od U e) := by
  unfold x_od
  rw [← x_xsx]
  refine x_xsc 12 (fun i hi => ?_)
  rw [Nat.testBit_or]
  cases h1 : S.testBit i
  · cases U.testBit i <;> cases decide (e < i) <;> rfl
  · rw [h i hi h1]
    cases decide (e < i) <;> rfl
theorem x_ort {S U e : Nat} (h : U.testBit e = false) : x_t S e ||| U = x_t (S ||| U) e := by
  apply Nat.eq_of_testBit_eq
  intro i
  rw [Nat.testBit_or]
  by_cases q : i = e
  · rw [q, x_tbs, x_tbs, Nat.testBit_or, h, Bool.or_false, Bool.or_false]
  · rw [x_tbn q, x_tbn q, Nat.testBit_or]
/-- the pairs of one of the second and a greater one of the first, odd -/
def x_il (S U : Nat) : Bool := x_xs 12 (fun u => U.testBit u && x_od S u)
theorem x_ilt {S U e : Nat} (he : e < 12) : x_il (x_t S e) U = (x_il S U ^^ x_xs 12 (fun u => U.testBit u && decide (u < e))) := by
  unfold x_il
  rw [← x_xsx]
  refine x_xsc 12 (fun u _ => ?_)
  rw [x_odt u he]
  cases U.testBit u <;> rfl
theorem x_ilU {U e : Nat} (h : U.testBit e = false) : (x_xs 12 (fun u => U.testBit u && decide (u < e)) ^^ x_od U e) = x_xs 12 (fun u => U.testBit u) := by
  unfold x_od
  rw [← x_xsx]
  refine x_xsc 12 (fun u _ => ?_)
  rcases Nat.lt_trichotomy u e with q | q | q
  · rw [decide_eq_true q, decide_eq_false (show ¬ e < u by omega)]; cases U.testBit u <;> rfl
  · rw [q, h]; cases decide (e < e) <;> rfl
  · rw [decide_eq_false (show ¬ u < e by omega), decide_eq_true q]; cases U.testBit u <;> rfl
/-- the form of what is left -/
def x_fr {R : Type} [Lean.Grind.CommRing R] (n : Nat) (k : Nat → Nat) (U : Nat) (f : Nat → R) (S : Nat) : R := if S < 2 ^ n then x_s R (x_il (x_sd n k S) U) * f (x_sd n k S ||| U) else 0
theorem x_frn {R : Type} [Lean.Grind.CommRing R] {n S U : Nat} {k : Nat → Nat} {f : Nat → R} (h : ¬ x_fr n k U f S = 0) : S < 2 ^ n ∧ ¬ f (x_sd n k S ||| U) = 0 := by
  unfold x_fr at h
  by_cases q : S < 2 ^ n
  · rw [if_pos q] at h
    exact ⟨q, fun z => h (by rw [z]; grind)⟩
  · rw [if_neg q] at h
    exact absurd rfl h
theorem x_fru {R : Type} [Lean.Grind.CommRing R] {n T U : Nat} {k : Nat → Nat} {f : Nat → R} (hn : n ≤ 12) (hk : x_up n k) (hU : ∀ j, j < n → U.testBit (k j) = false) (hT : T < 2 ^ n) : ∀ j, j < 12 → x_u (x_fr n k U f) T j = if j < n then x_s R (x_il (x_sd n k T) U) * x_s R (x_xs 12 (fun u => U.testBit u)) * x_u f (x_sd n k T ||| U) (k j) else 0 := by
  intro j hj
  by_cases q : j < n
  · rw [if_pos q]
    unfold x_u x_fr
    rw [Nat.testBit_or, x_sdb n hk j q, hU j q, Bool.or_false]
    by_cases b : T.testBit j = true
    · rw [if_pos b, if_pos b]; grind
    · rw [if_neg b, if_neg b, if_pos (x_tl hT q), x_sdt hk q, x_ort (hU j q), x_ilt (hk.2 j q), x_orod (fun i hi h => ?_), x_sdo12 hn hk hT q]
      · have h1 := x_ilU (U := U) (e := k j) (hU j q)
        have h2 : x_s R (x_xs 12 (fun u => U.testBit u)) = x_s R (x_xs 12 (fun u => U.testBit u && decide (u < k j))) * x_s R (x_od U (k j)) := by rw [← x_sx, h1]
        rw [h2, x_sx, x_sx]
        have h3 := x_ss (R := R) (x_od U (k j))
        grind
      · cases hh : U.testBit i
        · rfl
        · have : (x_sd n k T).testBit i = false := x_sdo n (fun m hm e => by rw [← e, hU m hm] at hh; exact Bool.noConfusion hh)
          rw [this] at h; exact Bool.noConfusion h
  · rw [if_neg q]
    unfold x_u x_fr
    rw [x_hi hT (show n ≤ j by omega), if_neg (by simp), if_neg (fun hlt => ?_)]
    · grind
    · have h5 := x_hi hlt (show n ≤ j by omega)
      rw [x_tbs, x_hi hT (show n ≤ j by omega)] at h5
      exact Bool.noConfusion h5
/-- contracting: the set is C; U is as much of it as can be -/
theorem x_frC {R : Type} [Lean.Grind.CommRing R] (hd : x_dom R) {P P' : (Nat → R) → Prop} {f : Nat → R} {n U : Nat} {k : Nat → Nat} {C : Nat → Prop} (hn : n ≤ 12) (hk : x_up n k) (hc' : x_cl P') (h2 : x_E2 P f) (h3 : x_E3 P f)
    (hU : ∀ j, j < n → U.testBit (k j) = false) (hUC : ∀ e, U.testBit e = true → C e) (hCK : ∀ j, j < n → ¬ C (k j)) (hc1 : ∀ T c, ¬ f T = 0 → (∀ e, U.testBit e = true → T.testBit e = true) → C c → c < 12 → T.testBit c = true → U.testBit c = true)
    (hP : ∀ v, P v → (∀ c, c < 12 → C c → v c = 0) → P' (fun j => if j < n then v (k j) else 0)) (hP' : ∀ v', P' v' → (∃ c v, ¬ c = 0 ∧ P v ∧ (∀ e, e < 12 → C e → v e = 0) ∧ (∀ j, j < n → c * v' j = v (k j))) ∧ (∀ e, e < 12 → n ≤ e → v' e = 0)) : x_E2 P' (x_fr n k U f) ∧ x_E3 P' (x_fr n k U f) := by
  constructor
  · intro S e hS he be
    obtain ⟨hl, hB⟩ := x_frn hS
    have hen : e < n := by
      refine Classical.byContradiction (fun q => ?_)
      rw [x_hi hl (show n ≤ e by omega)] at be
      exact Bool.noConfusion be
    have bB : (x_sd n k S ||| U).testBit (k e) = true := by rw [Nat.testBit_or, x_sdb n hk e hen, be]; rfl
    have e1 : x_sd n k (x_t S e) ||| U = x_t (x_sd n k S ||| U) (k e) := by rw [x_sdt hk hen, x_ort (hU e hen)]
    have hv := h2 _ (k e) hB (hk.2 e hen) bB
    have h0 : ∀ c, c < 12 → C c → x_u f (x_t (x_sd n k S ||| U) (k e)) c = 0 := by
      intro c hc hcC
      have hce : c ≠ k e := fun z => hCK e hen (z ▸ hcC)
      unfold x_u
      by_cases q : (x_t (x_sd n k S ||| U) (k e)).testBit c = true
      · rw [if_pos q]
      · rw [if_neg q]
        have : f (x_t (x_t (x_sd n k S ||| U) (k e)) c) = 0 := by
          refine Classical.byContradiction (fun hz => ?_)
          have bU := hc1 _ c hz (fun g hg => ?_) hcC hc (by rw [x_tbs]; cases hh : (x_t (x_sd n k S ||| U) (k e)).testBit c <;> simp_all)
          · rw [x_tbn hce, Nat.testBit_or, bU, Bool.or_true] at q
            exact q rfl
          · have hge : g ≠ k e := fun z => by rw [z, hU e hen] at hg; exact Bool.noConfusion hg
            by_cases hgc : g = c
            · rw [hgc] at hg
              rw [x_tbn hce, Nat.testBit_or, hg, Bool.or_true] at q
              exact absurd rfl q
            · rw [x_tbn hgc, x_tbn hge, Nat.testBit_or, hg, Bool.or_true]
        rw [this]; grind
    refine hc'.2.2.1 _ _ (fun j hj => ?_) (x_clm hc' (x_s R (x_il (x_sd n k (x_t S e)) U) * x_s R (x_xs 12 (fun u => U.testBit u))) (hP _ hv h0))
    rw [x_fru hn hk hU (x_tl hl hen) j hj, e1]
    by_cases q : j < n
    · simp only [if_pos q]
    · simp only [if_neg q]; grind
  · intro S v' hS hv' h0 j hj
    obtain ⟨hl, hB⟩ := x_frn hS
    obtain ⟨⟨c, v, hc0, hv, hvC, hcv⟩, hz⟩ := hP' v' hv'
    by_cases q : j < n
    · have hv0 := h3 _ v hB hv (fun e he be => ?_) (k j) (hk.2 j q)
      · have := hcv j q
        rw [hv0] at this
        exact (hd.1 _ _ this).resolve_left hc0
      · rw [Nat.testBit_or] at be
        cases hh : U.testBit e
        · rw [hh, Bool.or_false] at be
          by_cases q2 : ∃ m, m < n ∧ k m = e
          · obtain ⟨m, hm, rfl⟩ := q2
            rw [x_sdb n hk m hm] at be
            rw [← hcv m hm, h0 m (by omega) be]; grind
          · rw [x_sdo n (fun m hm e => q2 ⟨m, hm, e⟩)] at be
            exact Bool.noConfusion be
        · exact hvC e he (hUC e hh)
    · exact hz j hj (by omega)
/-- deleting: U is what of the set is wanted beside the others -/
theorem x_frD {R : Type} [Lean.Grind.CommRing R] (hd : x_dom R) {P P' : (Nat → R) → Prop} {f : Nat → R} {n U : Nat} {k : Nat → Nat} (hn : n ≤ 12) (hk : x_up n k) (hc : x_cl P) (hc' : x_cl P') (h2 : x_E2 P f) (h3 : x_E3 P f)
    (hU : ∀ j, j < n → U.testBit (k j) = false) (hd1 : ∀ T u, ¬ f T = 0 → (∀ e, e < 12 → T.testBit e = true → U.testBit e = true ∨ ∃ j, j < n ∧ k j = e) → u < 12 → U.testBit u = true → T.testBit u = true)
    (hP : ∀ v, P v → P' (fun j => if j < n then v (k j) else 0)) (hP' : ∀ v', P' v' → (∃ c v, ¬ c = 0 ∧ P v ∧ (∀ j, j < n → c * v' j = v (k j))) ∧ (∀ e, e < 12 → n ≤ e → v' e = 0)) : x_E2 P' (x_fr n k U f) ∧ x_E3 P' (x_fr n k U f) := by
  constructor
  · intro S e hS he be
    obtain ⟨hl, hB⟩ := x_frn hS
    have hen : e < n := by
      refine Classical.byContradiction (fun q => ?_)
      rw [x_hi hl (show n ≤ e by omega)] at be
      exact Bool.noConfusion be
    have bB : (x_sd n k S ||| U).testBit (k e) = true := by rw [Nat.testBit_or, x_sdb n hk e hen, be]; rfl
    have e1 : x_sd n k (x_t S e) ||| U = x_t (x_sd n k S ||| U) (k e) := by rw [x_sdt hk hen, x_ort (hU e hen)]
    refine hc'.2.2.1 _ _ (fun j hj => ?_) (x_clm hc' (x_s R (x_il (x_sd n k (x_t S e)) U) * x_s R (x_xs 12 (fun u => U.testBit u))) (hP _ (h2 _ (k e) hB (hk.2 e hen) bB)))
    rw [x_fru hn hk hU (x_tl hl hen) j hj, e1]
    by_cases q : j < n
    · simp only [if_pos q]
    · simp only [if_neg q]; grind
  · intro S v' hS hv' h0 j hj
    obtain ⟨hl, hB⟩ := x_frn hS
    obtain ⟨⟨c, v, hc0, hv, hcv⟩, hz⟩ := hP' v' hv'
    by_cases q : j < n
    · let B := x_sd n k S ||| U
      have bU : ∀ u, U.testBit u = true → B.testBit u = true := fun u hu => by show (x_sd n k S ||| U).testBit u = true; rw [Nat.testBit_or, hu, Bool.or_true]
      have hw : P (fun g => x_sm 12 (fun u => if U.testBit u = true then x_s R (x_od (x_t B u) u) * v u * x_u f (x_t B u) g else 0)) := by
        refine x_cls hc (fun u g => if U.testBit u = true then x_s R (x_od (x_t B u) u) * v u * x_u f (x_t B u) g else 0) 12 (fun u hu => ?_)
        by_cases b : U.testBit u = true
        · refine hc.2.2.1 _ _ (fun g _ => ?_) (x_clm hc (x_s R (x_od (x_t B u) u) * v u) (h2 B u hB hu (bU u b)))
          simp only [if_pos b]
        · refine hc.2.2.1 _ _ (fun g _ => ?_) hc.1
          simp only [if_neg b]
      have hv0 := h3 B _ hB (hc.2.1 (f B) (-1) _ _ hv hw) (fun g hg bg => ?_) (k j) (hk.2 j q)
      · rw [x_sm0 12 (fun u hu => ?_)] at hv0
        · have h4 : f B * v (k j) = 0 := by grind
          have h5 := hcv j q
          rw [(hd.1 _ _ h4).resolve_left hB] at h5
          exact (hd.1 _ _ h5).resolve_left hc0
        · by_cases b : U.testBit u = true
          · rw [if_pos b]
            have : x_u f (x_t B u) (k j) = 0 := by
              have hju : k j ≠ u := fun z => by rw [← z, hU j q] at b; exact Bool.noConfusion b
              unfold x_u
              by_cases q2 : (x_t B u).testBit (k j) = true
              · rw [if_pos q2]
              · rw [if_neg q2]
                have : f (x_t (x_t B u) (k j)) = 0 := by
                  refine Classical.byContradiction (fun hz2 => ?_)
                  have := hd1 _ u hz2 (fun e he be => ?_) hu b
                  · rw [x_tbn (fun z => hju z.symm), x_tbs, bU u b] at this
                    exact Bool.noConfusion this
                  · by_cases q3 : e = k j
                    · exact Or.inr ⟨j, q, q3.symm⟩
                    · rw [x_tbn q3] at be
                      by_cases q4 : e = u
                      · exact Or.inl (q4 ▸ b)
                      · rw [x_tbn q4] at be
                        have be : (x_sd n k S ||| U).testBit e = true := be
                        rw [Nat.testBit_or] at be
                        cases hh : U.testBit e
                        · rw [hh, Bool.or_false] at be
                          by_cases q5 : ∃ m, m < n ∧ k m = e
                          · exact Or.inr q5
                          · rw [x_sdo n (fun m hm e => q5 ⟨m, hm, e⟩)] at be
                            exact Bool.noConfusion be
                        · exact Or.inl rfl
                rw [this]; grind
            rw [this]; grind
          · rw [if_neg b]
      · have bg' : (x_sd n k S ||| U).testBit g = true := bg
        rw [Nat.testBit_or] at bg'
        cases hh : U.testBit g
        · rw [hh, Bool.or_false] at bg'
          have hvg : v g = 0 := by
            by_cases q2 : ∃ m, m < n ∧ k m = g
            · obtain ⟨m, hm, rfl⟩ := q2
              rw [x_sdb n hk m hm] at bg'
              rw [← hcv m hm, h0 m (by omega) bg']; grind
            · rw [x_sdo n (fun m hm e => q2 ⟨m, hm, e⟩)] at bg'
              exact Bool.noConfusion bg'
          rw [hvg, x_sm0 12 (fun u hu => ?_)]
          · grind
          · by_cases b : U.testBit u = true
            · rw [if_pos b]
              have hgu : g ≠ u := fun z => by rw [z, b] at hh; exact Bool.noConfusion hh
              unfold x_u
              rw [x_tbn hgu, bg, if_pos rfl]; grind
            · rw [if_neg b]
        · rw [x_sm1 (k := g) 12 hg (fun u hu hne => ?_)]
          · rw [if_pos hh]
            unfold x_u
            rw [x_tbs, bg, if_neg (by simp), x_tt]
            have := x_ss (R := R) (x_od (x_t B g) g)
            grind
          · by_cases b : U.testBit u = true
            · rw [if_pos b]
              unfold x_u
              rw [x_tbn (fun z => hne z.symm), bg, if_pos rfl]; grind
            · rw [if_neg b]
    · exact hz j hj (by omega)
