/-! PURE, the reference: belowOf, the same signs as the class's negatives -/
section RBE
variable {ge gr gR go gs gS iv gt : Nat → Int32} {m n r : Nat} {b : Nat → Bool} {C : Nat}
/-- a circuit -/
def x_cir (b : Nat → Bool) (n C : Nat) : Prop := C < 2 ^ n ∧ x_rk b C < x_n C ∧ ∀ e, e < n → C.testBit e = true → x_rk b (x_t C e) = x_n (x_t C e)
theorem x_ciL (hC : x_cir b n C) (hn : n ≤ 12) : x_ls C < n ∧ C.testBit (x_ls C) = true ∧ (∀ e, C.testBit e = true → x_ls C ≤ e) := by
  have hp := b_p12 hn
  have h0 : C ≠ 0 := fun z => by
    have h1 : x_n (0 : Nat) = 0 := x_cn0 12 (fun i _ => Nat.zero_testBit i)
    have := hC.2.1; rw [z, h1] at this; omega
  obtain ⟨_, hlt, hl12, hall⟩ := (b_ls C (by have := hC.1; omega)).resolve_left h0
  refine ⟨Classical.byContradiction (fun q => ?_), hlt, fun e he => Classical.byContradiction (fun q => ?_)⟩
  · rw [x_hi hC.1 (show n ≤ x_ls C by omega)] at hlt; exact Bool.noConfusion hlt
  · have := List.all_eq_true.mp hall e (List.mem_range.mpr (by omega))
    rw [he] at this; exact Bool.noConfusion this
theorem x_ciR (hb : x_M n r b) (hC : x_cir b n C) {e : Nat} (he : e < n) (hCe : C.testBit e = true) : x_rk b C = x_rk b (x_t C e) := by
  have hn := hb.1
  have h1 := hC.2.2 e he hCe
  have h2 := x_rk0 hb (S := x_t C e) (e := e) (by omega) (by rw [x_tbs, hCe]; rfl)
  rw [x_tt] at h2
  have h3 := x_nt1 (S := C) (e := e) (by omega) hCe
  have h4 := hC.2.1
  omega
theorem x_racc (hb : x_M n r b) (hC : x_cir b n C) : ∀ k, k ≤ n → x_ra b (x_mi (2 ^ n - 1) C) k (x_t C (x_ls C)) = x_ra b (x_mi (2 ^ n - 1) (x_t C (x_ls C))) k (x_t C (x_ls C)) := by
  have hn := hb.1
  obtain ⟨l1, l2, l3⟩ := x_ciL hC hn
  have e0 := x_ciR hb hC l1 l2
  generalize x_ls C = l at *
  intro k
  induction k with
  | zero => intro _; rfl
  | succ k ih =>
    intro hk
    have ih := ih (by omega)
    unfold x_ra
    rw [← ih]
    by_cases q : k = l
    · subst q
      have hG : (x_ra b (x_mi (2 ^ n - 1) C) k (x_t C k)).testBit k = false := by
        cases hh : (x_ra b (x_mi (2 ^ n - 1) C) k (x_t C k)).testBit k
        · rfl
        · rcases x_rab k k hh with z | z
          · rw [x_tbs, l2] at z; exact Bool.noConfusion z
          · omega
      have := x_clo hb (X := x_t C k) (Y := x_ra b (x_mi (2 ^ n - 1) C) k (x_t C k)) (e := k) (by omega) (fun i _ hi => x_ras k i hi) hG (by rw [x_tt]; exact e0)
      rw [if_neg (fun z => by have := z.2.2; omega), if_neg (fun z => by have := z.2.2; omega)]
    · have e1 : (x_mi (2 ^ n - 1) C).testBit k = (x_mi (2 ^ n - 1) (x_t C l)).testBit k := by rw [x_mib, x_mib, x_tbn q]
      rw [e1]
/-- the basis, and the bases beside it -/
theorem x_cbB (hb : x_M n r b) (hC : x_cir b n C) : x_cb b n C < 2 ^ n ∧ b (x_cb b n C) = true ∧ (x_cb b n C).testBit (x_ls C) = false ∧ ∀ i, (x_t C (x_ls C)).testBit i = true → (x_cb b n C).testBit i = true := by
  have hn := hb.1
  obtain ⟨l1, l2, l3⟩ := x_ciL hC hn
  have e0 := x_ciR hb hC l1 l2
  have ef := x_racc hb hC n (Nat.le_refl n)
  have hst := hC.2.2 _ l1 l2
  unfold x_cb
  rw [← ef]
  generalize x_ls C = l at *
  have h12 : C < 2 ^ 12 := Nat.lt_of_lt_of_le hC.1 (Nat.pow_le_pow_right (by decide) hn)
  have hG12 := x_ral (b := b) (set := x_mi (2 ^ n - 1) C) (Nat.le_refl 12) (x_tl h12 (show l < 12 by omega)) n hn
  have hfull : ∀ i, (2 ^ n - 1).testBit i = decide (i < n) := fun i => Nat.testBit_two_pow_sub_one n i
  have hGl : (x_ra b (x_mi (2 ^ n - 1) C) n (x_t C l)).testBit l = false := by
    cases hh : (x_ra b (x_mi (2 ^ n - 1) C) n (x_t C l)).testBit l
    · rfl
    · rcases x_rab n l hh with z | z
      · rw [x_tbs, l2] at z; exact Bool.noConfusion z
      · rw [x_mib, l2] at z; simp at z
  have hGn : x_ra b (x_mi (2 ^ n - 1) C) n (x_t C l) < 2 ^ n := x_lo hn (fun i hi hni => by
    cases hh : (x_ra b (x_mi (2 ^ n - 1) C) n (x_t C l)).testBit i
    · rfl
    · rcases x_rab n i hh with z | z
      · rw [x_tbn (by omega), x_hi hC.1 hni] at z; exact Bool.noConfusion z
      · omega) hG12
  have hrar := x_rar hb (set := x_mi (2 ^ n - 1) C) (g := x_t C l) n hn
  have hsub : ∀ i, (x_t C l).testBit i = true → (x_ra b (x_mi (2 ^ n - 1) C) n (x_t C l)).testBit i = true := fun i hi => x_ras n i hi
  have hcl : ∀ e, e < 12 → (2 ^ n - 1).testBit e = true → (x_ra b (x_mi (2 ^ n - 1) C) n (x_t C l)).testBit e = false → x_rk b (x_t (x_ra b (x_mi (2 ^ n - 1) C) n (x_t C l)) e) = x_rk b (x_ra b (x_mi (2 ^ n - 1) C) n (x_t C l)) := by
    intro e he hf hGe
    rw [hfull] at hf
    by_cases q : e = l
    · subst q
      exact x_clo hb (X := x_t C e) he (fun i _ hi => hsub i hi) hGe (by rw [x_tt]; exact e0)
    · refine x_rac hb n hn e (of_decide_eq_true hf) ?_ hGe
      rw [x_mib, hfull, hf, Bool.true_and]
      cases hh : C.testBit e
      · rfl
      · rw [hsub e (by rw [x_tbn q, hh])] at hGe; exact Bool.noConfusion hGe
  generalize x_ra b (x_mi (2 ^ n - 1) C) n (x_t C l) = G at *
  have hspan := x_span hb (set := 2 ^ n - 1) hcl _ (2 ^ n - 1) rfl (fun i _ hi => by
    rw [hfull]
    refine decide_eq_true (Classical.byContradiction (fun q => ?_))
    rw [x_hi hGn (show n ≤ i by omega)] at hi; exact Bool.noConfusion hi) (fun i _ hi => Or.inr hi)
  rw [x_rkall hb (fun i hi => by rw [hfull]; exact decide_eq_true hi)] at hspan
  refine ⟨hGn, ?_, hGl, hsub⟩
  rw [← w_gbb hb hGn]
  unfold w_gb
  rw [decide_eq_true (show x_n G = r by omega), decide_eq_true (show x_rk b G = r by omega)]
  rfl
theorem x_cbE (hb : x_M n r b) (hC : x_cir b n C) {e : Nat} (he : e < n) (hCe : C.testBit e = true) (hel : e ≠ x_ls C) : x_t (x_t (x_cb b n C) e) (x_ls C) < 2 ^ n ∧ b (x_t (x_t (x_cb b n C) e) (x_ls C)) = true := by
  have hn := hb.1
  obtain ⟨l1, l2, l3⟩ := x_ciL hC hn
  obtain ⟨g1, g2, g3, g4⟩ := x_cbB hb hC
  have e0 := x_ciR hb hC l1 l2
  have e1 := x_ciR hb hC he hCe
  generalize x_ls C = l at *
  generalize x_cb b n C = G at *
  have hG' : x_t (x_t G e) l < 2 ^ n := x_tl (x_tl g1 he) l1
  have hGe : G.testBit e = true := g4 e (by rw [x_tbn hel, hCe])
  have c1 := x_clo hb (X := x_t C l) (Y := G) (e := l) (by omega) (fun i _ hi => g4 i hi) g3 (by rw [x_tt]; exact e0)
  have c2 := x_clo hb (X := x_t C e) (Y := x_t (x_t G e) l) (e := e) (by omega) (fun i _ hi => by
    by_cases q : i = l
    · subst q; rw [x_tbs, x_tbn (fun z => hel z.symm), g3]; rfl
    · by_cases q' : i = e
      · subst q'; rw [x_tbs, hCe] at hi; exact Bool.noConfusion hi
      · rw [x_tbn q, x_tbn q']
        refine g4 i ?_
        rw [x_tbn q]; rw [x_tbn q'] at hi; exact hi) (by rw [x_tbn hel, x_tbs, hGe]; rfl) (by rw [x_tt]; exact e1)
  rw [x_tc (x_t G e) l e, x_tt, c1] at c2
  have n1 := x_nt1 (S := G) (e := e) (by omega) hGe
  have n2 := x_nt0 (S := x_t G e) (e := l) (by omega) (by rw [x_tbn (fun z => hel z.symm)]; exact g3)
  have r1 := (hb.2.2.1 G g2).2
  have r2 := x_indr hb g2 (S := G) (fun _ _ hi => hi)
  refine ⟨hG', ?_⟩
  rw [← w_gbb hb hG']
  unfold w_gb
  rw [decide_eq_true (show x_n (x_t (x_t G e) l) = r by omega), decide_eq_true (show x_rk b (x_t (x_t G e) l) = r by omega)]
  rfl
def x_sgv (p : Bool) (v : Int32) : Int32 := if p = true then - v else v
theorem x_sgvx (p q : Bool) (v : Int32) (hv : v = 1 ∨ v = -1) : x_sgv p (x_sgv q v) = x_sgv (q ^^ p) v := by
  rcases hv with h | h <;> subst h <;> cases p <;> cases q <;> rfl
theorem x_sgvn (p q cr : Bool) (v w : Int32) (hv : v = 1 ∨ v = -1) (hw : w = 1 ∨ w = -1) (h : (p ^^ q ^^ cr) = true) : (x_sgv p w ≠ x_sgv q v) ↔ (if cr = true then decide (v * w < 0) else decide (0 < v * w)) = true := by
  rcases hv with hv | hv <;> rcases hw with hw | hw <;> subst hv <;> subst hw <;> cases p <;> cases q <;> cases cr <;> first | exact Bool.noConfusion h | decide
theorem x_bpar (hn : n ≤ 12) (hC : x_cir b n C) {G e l : Nat} (hl : l < 12) (he : e < 12) (hle : l < e) (hCl : C.testBit l = true) (hlo : ∀ i, C.testBit i = true → l ≤ i) (hGl : G.testBit l = false) (hsub : ∀ i, (x_t C l).testBit i = true → G.testBit i = true) :
    ((x_il (x_t C e) (x_mi G (x_t C l)) ^^ x_xs e (fun i => C.testBit i)) ^^ (x_il (x_t C l) (x_mi G (x_t C l)) ^^ x_xs l (fun i => C.testBit i)) ^^ x_cr G l e) = true := by
  have h1 := x_ilt (S := C) (U := x_mi G (x_t C l)) he
  have h2 := x_ilt (S := C) (U := x_mi G (x_t C l)) hl
  have h3 : x_xs l (fun i => C.testBit i) = false := x_xs0 l (fun i hi => by
    cases hh : C.testBit i
    · rfl
    · have := hlo i hh; omega)
  have h4 : x_xs e (fun i => C.testBit i) = x_xs 12 (fun i => C.testBit i && decide (i < e)) := by
    have := x_xsm (f := fun i => C.testBit i && decide (i < e)) (n := e) (12 - e) (fun i h1 h2 => by rw [decide_eq_false (show ¬ i < e by omega), Bool.and_false])
    rw [show e + (12 - e) = 12 by omega] at this
    rw [this]
    exact x_xsc e (fun i hi => by rw [decide_eq_true hi, Bool.and_true])
  have h5 : x_cr G l e = x_xs 12 (fun k => G.testBit k && decide (l < k ∧ k < e)) := rfl
  rw [h1, h2, h3, h4, h5, Bool.xor_false]
  have hx : (x_xs 12 (fun u => (x_mi G (x_t C l)).testBit u && decide (u < e)) ^^ x_xs 12 (fun i => C.testBit i && decide (i < e)) ^^ x_xs 12 (fun u => (x_mi G (x_t C l)).testBit u && decide (u < l)) ^^ x_xs 12 (fun k => G.testBit k && decide (l < k ∧ k < e))) = true := by
    rw [← x_xsx, ← x_xsx, ← x_xsx, x_xs1 (k := l) 12 hl (fun i hi hil => ?_)]
    · rw [x_mib, hGl, hCl, decide_eq_true hle]; simp
    · rw [x_mib, x_tbn hil]
      have hs := hsub i
      rw [x_tbn hil] at hs
      by_cases q1 : i < l
      · have : C.testBit i = false := by
          cases hh : C.testBit i
          · rfl
          · have := hlo i hh; omega
        rw [this, decide_eq_true q1, decide_eq_true (show i < e by omega), decide_eq_false (show ¬ (l < i ∧ i < e) by omega)]
        cases G.testBit i <;> rfl
      · rw [decide_eq_false q1]
        by_cases q2 : i < e
        · rw [decide_eq_true q2, decide_eq_true (show l < i ∧ i < e by omega)]
          cases hh : C.testBit i
          · cases G.testBit i <;> rfl
          · rw [hs hh]; rfl
        · rw [decide_eq_false q2, decide_eq_false (show ¬ (l < i ∧ i < e) by omega)]; simp
  generalize x_xs 12 (fun u => (x_mi G (x_t C l)).testBit u && decide (u < e)) = a1 at *
  generalize x_xs 12 (fun i => C.testBit i && decide (i < e)) = a2 at *
  generalize x_xs 12 (fun u => (x_mi G (x_t C l)).testBit u && decide (u < l)) = a3 at *
  generalize x_xs 12 (fun k => G.testBit k && decide (l < k ∧ k < e)) = a4 at *
  generalize x_il C (x_mi G (x_t C l)) = a5 at *
  revert hx
  cases a1 <;> cases a2 <;> cases a3 <;> cases a4 <;> cases a5 <;> decide
theorem x_ciT (hn : n ≤ 12) (hC : C < 2 ^ n) (h : x_ci b n C = true) : x_cir b n C := by
  unfold x_ci at h
  rw [Bool.and_eq_true] at h
  have h1 := of_decide_eq_true h.1
  refine ⟨hC, by omega, fun e he hCe => ?_⟩
  have h2 := List.all_eq_true.mp h.2 e (List.mem_range.mpr he)
  rw [hCe, Bool.not_true, Bool.false_or] at h2
  have h2 := of_decide_eq_true h2
  have h3 := x_nt1 (S := C) (e := e) (by omega) hCe
  omega
theorem x_migo {G S k : Nat} (hG : G.testBit k = false) (hS : S.testBit k = false) : x_mi (x_t G k) S = x_mi G S ||| 2 ^ k := by
  apply Nat.eq_of_testBit_eq
  intro i
  rw [x_mib, Nat.testBit_or, x_mib, Nat.testBit_two_pow]
  by_cases q : i = k
  · subst q; rw [x_tbs, hG, hS]; simp
  · rw [x_tbn q, decide_eq_false (fun z => q z.symm), Bool.or_false]
theorem x_miso {G S : Nat} (h : ∀ i, S.testBit i = true → G.testBit i = true) : S ||| x_mi G S = G := by
  apply Nat.eq_of_testBit_eq
  intro i
  rw [Nat.testBit_or, x_mib]
  cases hS : S.testBit i
  · simp
  · rw [h i hS]; rfl
theorem x_tor0 {S k : Nat} (h : S.testBit k = false) : S ||| 2 ^ k = x_t S k := by
  apply Nat.eq_of_testBit_eq
  intro i
  rw [Nat.testBit_or, Nat.testBit_two_pow]
  by_cases q : i = k
  · subst q; rw [x_tbs, h]; simp
  · rw [x_tbn q, decide_eq_false (fun z => q z.symm), Bool.or_false]
theorem r_below {post : Int32 → (Nat → Int32) → (Nat → Int32) → (Nat → Int32) → (Nat → Int32) → (Nat → Int32) → Prop} {s : Nat → Int32} (hD : r_D ge gr gR m n r b) (hC : x_cir b n C) (hS : ∀ S, S < 2 ^ n → gS (4096 * m + S) = s S) (hs : ∀ S, S < 2 ^ n → b S = true → s S = 1 ∨ s S = -1) (h : ∀ gt', post (nI (x_ngk s (x_cb b n C) C n)) iv ge gR gS gt') : w84_wp post (nI m) (nI C) iv ge gR gS gt := by
  have hb := hD.2.2.2.1
  have hn := (r_Dn hD).1
  have hp := b_p12 hn
  have hm := hD.1
  have hC0 := hC.1
  obtain ⟨l1, l2, l3⟩ := x_ciL hC hn
  obtain ⟨g1, g2, g3, g4⟩ := x_cbB hb hC
  have hbe := fun e he hCe hel => x_cbE hb hC (e := e) he hCe hel
  have hbp := fun e (he : e < 12) hle => x_bpar (b := b) hn hC (G := x_cb b n C) (e := e) (l := x_ls C) (by omega) he hle l2 l3 g3 g4
  have hra := x_racc hb hC
  have hcb : x_cb b n C = x_ra b (x_mi (2 ^ n - 1) C) n (x_t C (x_ls C)) := (hra n (Nat.le_refl n)).symm
  have hng : ∀ k, x_ngk s (x_cb b n C) C (k + 1) = if C.testBit k = true ∧ k ≠ x_ls C ∧ x_neg1 s (x_cb b n C) k (x_ls C) = true then x_ngk s (x_cb b n C) C k ||| 2 ^ k else x_ngk s (x_cb b n C) C k := fun k => rfl
  have hfull : ∀ i, (2 ^ n - 1).testBit i = decide (i < n) := fun i => Nat.testBit_two_pow_sub_one n i
  generalize x_ls C = l at *
  have hst : x_t C l < 2 ^ n := x_tl hC.1 l1
  -- the third loop
  have hD' : ∀ e, e < n → C.testBit e = true → x_t C e ||| x_mi (x_cb b n C) (x_t C l) = if e = l then x_cb b n C else x_t (x_t (x_cb b n C) e) l := by
    intro e he hCe
    apply Nat.eq_of_testBit_eq
    intro i
    rw [Nat.testBit_or, x_mib]
    by_cases q : e = l
    · subst q
      rw [if_pos rfl]
      cases hh : (x_t C e).testBit i
      · simp
      · rw [g4 i hh]; rfl
    · rw [if_neg q]
      by_cases q1 : i = l
      · subst q1
        rw [x_tbs, x_tbn (fun z => q z.symm), x_tbs, x_tbn (fun z => q z.symm), l2, g3]; rfl
      · by_cases q2 : i = e
        · subst q2
          rw [x_tbs, x_tbn q1, x_tbn q1, x_tbs, hCe, g4 i (by rw [x_tbn q1, hCe])]; rfl
        · rw [x_tbn q2, x_tbn q1, x_tbn q1, x_tbn q2]
          cases hh : C.testBit i
          · simp
          · rw [g4 i (by rw [x_tbn q1, hh])]; rfl
  have hM : x_mi (x_cb b n C) (x_t C l) < 2 ^ n := x_milt g1
  have hMn : ∀ e, e < n → C.testBit e = true → x_n (x_t C e) + x_n (x_mi (x_cb b n C) (x_t C l)) ≤ 12 := by
    intro e he hCe
    have a1 := x_nt1 (S := C) (e := e) (by omega) hCe
    have a2 : x_n C + x_n (x_mi (x_cb b n C) (x_t C l)) ≤ 12 + 1 := by
      have a3 := x_nt1 (S := C) (e := l) (by omega) l2
      have a4 : x_n (x_t C l) + x_n (x_mi (x_cb b n C) (x_t C l)) + x_cn 12 (fun _ => false) = x_n (x_cb b n C) := x_cn3 12 (fun i _ => by
        rw [x_mib]
        have := g4 i
        cases hh : (x_t C l).testBit i <;> cases hg : (x_cb b n C).testBit i
        · rfl
        · rfl
        · rw [hh, hg] at this; exact absurd (this rfl) (by decide)
        · rfl)
      have a5 := x_nle (x_cb b n C)
      omega
    omega
  have hcr : ∀ e, x_neg1 s (x_cb b n C) e l = (if x_cr (x_cb b n C) l e = true then decide (s (x_cb b n C) * s (x_t (x_t (x_cb b n C) e) l) < 0) else decide (0 < s (x_cb b n C) * s (x_t (x_t (x_cb b n C) e) l))) := fun e => rfl
  generalize hG : x_cb b n C = G at *
  generalize hMM : x_mi G (x_t C l) = M at *
  have third : ∀ (u k : Nat) (x7 : Int32) (gt : Nat → Int32), k + u = n → (l < k → x7 = x_sgv (x_il (x_t C l) M ^^ x_xs l (fun i => C.testBit i)) (s G)) → w84_L110 post (u + 1) (nI m) (nI C) (nI l) (nI M) (nI (x_t C l)) (nI (x_ngk s G C k)) x7 (nI (x_cn k (fun i => C.testBit i))) (nI k) iv ge gR gS gt := by
    intro u
    induction u with
    | zero =>
      intro k x7 gt hk h7
      have : k = n := by omega
      subst this
      unfold w84_L110
      rw [nI_clamp (show m < 2 ^ 31 by omega), hD.2.1]
      exact ⟨b_in hm (by omega), fun _ => h gt, fun w => absurd (nI_le (Nat.le_refl k) (by omega)) w⟩
    | succ u ih =>
      intro k x7 gt hk h7
      have ec : x_cn (k + 1) (fun i => C.testBit i) = x_cn k (fun i => C.testBit i) + (if C.testBit k = true then 1 else 0) := rfl
      unfold w84_L110
      rw [nI_clamp (show m < 2 ^ 31 by omega), hD.2.1, b_bit0 (show C < 2 ^ 31 by omega) (show k < 32 by omega)]
      refine ⟨b_in hm (by omega), fun w => absurd w (nI_ge (by omega) (by omega)), fun _ => ⟨fun w => ?_, fun w => ?_⟩⟩
      · have hCk : C.testBit k = true := by cases hh : C.testBit k with | true => rfl | false => exact absurd hh w
        rw [hCk, if_pos rfl] at ec
        rw [b_sh (by omega), b_xor, show C ^^^ 2 ^ k = x_t C k from rfl]
        refine r_det hm hn hD.2.1 (x_tl hC.1 (by omega)) hM (hMn k (by omega) hCk) (fun gt' => ?_)
        have hcnk := x_cnN (P := fun i => C.testBit i) k
        have hpar := x_par (f := fun i => C.testBit i) k
        have hFM : x_t C k ||| M < 2 ^ n := Nat.or_lt_two_pow (x_tl hC.1 (by omega)) hM
        rw [hS _ hFM, hD' k (by omega) hCk]
        -- the value with its sign
        have hval : ∀ P : Int32 → Int32 → Prop, (∀ y, P y (x_sgv (x_il (x_t C k) M ^^ x_xs k (fun i => C.testBit i)) (if k = l then s G else s (x_t (x_t G k) l)))) → (¬ (nI (x_cn k (fun i => C.testBit i)) - nI (x_cn k (fun i => C.testBit i)) / 2 * 2) = 0 → P (if x_il (x_t C k) M = true then -s (if k = l then G else x_t (x_t G k) l) else s (if k = l then G else x_t (x_t G k) l)) (- (if x_il (x_t C k) M = true then -s (if k = l then G else x_t (x_t G k) l) else s (if k = l then G else x_t (x_t G k) l)))) ∧ ((nI (x_cn k (fun i => C.testBit i)) - nI (x_cn k (fun i => C.testBit i)) / 2 * 2) = 0 → P (if x_il (x_t C k) M = true then -s (if k = l then G else x_t (x_t G k) l) else s (if k = l then G else x_t (x_t G k) l)) (if x_il (x_t C k) M = true then -s (if k = l then G else x_t (x_t G k) l) else s (if k = l then G else x_t (x_t G k) l))) := by
          intro P hP
          have hv : s (if k = l then G else x_t (x_t G k) l) = (if k = l then s G else s (x_t (x_t G k) l)) := by split <;> rfl
          have hv1 : (if k = l then s G else s (x_t (x_t G k) l)) = 1 ∨ (if k = l then s G else s (x_t (x_t G k) l)) = -1 := by
            by_cases q : k = l
            · rw [if_pos q]; exact hs G g1 g2
            · rw [if_neg q]; exact hs _ (hbe k (by omega) hCk q).1 (hbe k (by omega) hCk q).2
          rw [hv, b_ev _ (by omega), hpar]
          generalize (if k = l then s G else s (x_t (x_t G k) l)) = v at *
          generalize x_il (x_t C k) M = p at *
          generalize x_xs k (fun i => C.testBit i) = q at *
          have e1 : (if p = true then - v else v) = x_sgv p v := rfl
          rw [e1]
          refine ⟨fun w => ?_, fun w => ?_⟩
          · have : q = true := Classical.not_not.mp w
            have e2 : - x_sgv p v = x_sgv (p ^^ q) v := by rw [← x_sgvx q p v hv1, this]; rfl
            rw [e2]; exact hP _
          · have : q = false := by cases q; rfl; exact absurd rfl w
            have e2 : x_sgv p v = x_sgv (p ^^ q) v := by rw [this, Bool.xor_false]
            rw [← e2] at hP
            exact hP _
        refine hval (fun a y => w84_L163 (w84_L110 post (u + 1)) post (nI m) (nI C) (nI l) (nI M) (nI (x_t C l)) (nI (x_ngk s G C k)) x7 (nI (x_cn k (fun i => C.testBit i))) (nI k) a y iv ge gR gS gt') (fun a => ?_)
        unfold w84_L163 w84_L177 w84_L198 w84_L203
        by_cases q : k = l
        · subst q
          have c0 : x_cn k (fun i => C.testBit i) = 0 := x_cn0 k (fun i hi => by
            cases hh : C.testBit i
            · rfl
            · have := l3 i hh; omega)
          rw [if_pos rfl]
          refine ⟨fun z => absurd (by rw [c0]; rfl) z, fun _ => ⟨fun z => absurd rfl z, fun _ z2 ez2 z1 ez1 => ?_⟩⟩
          have := ih (k + 1) _ gt' (by omega) (fun _ => rfl)
          rw [hng, if_neg (fun z => z.2.1 rfl), ec] at this
          rw [ez2, ez1, nI_1, nI_1]
          exact this
        · have hlk : l < k := by have := l3 k hCk; omega
          have c0 : x_cn k (fun i => C.testBit i) ≠ 0 := fun z => by
            have := x_cnz k z l hlk
            have this : C.testBit l = false := this
            rw [l2] at this; exact Bool.noConfusion this
          rw [if_neg q]
          have h7 := h7 hlk
          have hx := x_sgvn (x_il (x_t C k) M ^^ x_xs k (fun i => C.testBit i)) (x_il (x_t C l) M ^^ x_xs l (fun i => C.testBit i)) (x_cr G l k) (s G) (s (x_t (x_t G k) l)) (hs G g1 g2) (hs _ (hbe k (by omega) hCk q).1 (hbe k (by omega) hCk q).2) (hbp k (by omega) hlk)
          rw [← hcr k, ← h7] at hx
          refine ⟨fun _ => ⟨fun z z2 ez2 z1 ez1 => ?_, fun z z2 ez2 z1 ez1 => ?_⟩, fun z => absurd z (nI_ne0 (by omega) (by omega))⟩
          · have := ih (k + 1) x7 gt' (by omega) (fun _ => h7)
            rw [hng, if_pos ⟨hCk, q, hx.1 z⟩, ec] at this
            rw [ez2, ez1, nI_1, nI_1, b_sh (by omega), b_or]
            exact this
          · have := ih (k + 1) x7 gt' (by omega) (fun _ => h7)
            rw [hng, if_neg (fun y => hx.2 y.2.2 z), ec] at this
            rw [ez2, ez1, nI_1, nI_1]
            exact this
      · rw [w, if_neg (by decide), Nat.add_zero] at ec
        have := ih (k + 1) x7 gt (by omega) (fun z => h7 (by
          have : k ≠ l := fun z => by rw [z, l2] at w; exact Bool.noConfusion w
          omega))
        rw [hng, if_neg (fun z => by rw [w] at z; exact Bool.noConfusion z.1), ec] at this
        unfold w84_L203
        intro z ez
        rw [ez, nI_1]
        exact this
  have hmore : ∀ k, x_mi (x_ra b (x_mi (2 ^ n - 1) C) k (x_t C l)) (x_t C l) ||| x_t C l = x_ra b (x_mi (2 ^ n - 1) C) k (x_t C l) := fun k => by
    rw [Nat.or_comm]; exact x_miso (fun i hi => x_ras k i hi)
  have hGl : ∀ k, k ≤ n → x_ra b (x_mi (2 ^ n - 1) C) k (x_t C l) < 2 ^ n := by
    intro k hk
    have hst12 : x_t C l < 2 ^ 12 := by omega
    exact x_lo hn (fun i hi hni => by
      cases hh : (x_ra b (x_mi (2 ^ n - 1) C) k (x_t C l)).testBit i
      · rfl
      · rcases x_rab k i hh with z | z
        · rw [x_hi hst hni] at z; exact Bool.noConfusion z
        · omega) (x_ral (Nat.le_refl 12) hst12 k (by omega))
  have second : ∀ (u k : Nat), k + u = n → w84_L29 post (u + 1) (nI m) (nI C) (nI l) (nI (x_mi (x_ra b (x_mi (2 ^ n - 1) C) k (x_t C l)) (x_t C l))) (nI (x_t C l)) (nI k) iv ge gR gS gt := by
    intro u
    induction u with
    | zero =>
      intro k hk
      have : k = n := by omega
      subst this
      unfold w84_L29
      rw [nI_clamp (show m < 2 ^ 31 by omega), hD.2.1]
      refine ⟨b_in hm (by omega), fun _ => ⟨k + 1, ?_⟩, fun w => absurd (nI_le (Nat.le_refl k) (by omega)) w⟩
      rw [← hcb, hMM]
      exact third k 0 0 gt (by omega) (fun z => absurd z (Nat.not_lt_zero l))
    | succ u ih =>
      intro k hk
      have ih := ih (k + 1) (by omega)
      have hlt := hGl k (by omega)
      have hmk := hmore k
      have er : x_ra b (x_mi (2 ^ n - 1) C) (k + 1) (x_t C l) = if (x_mi (2 ^ n - 1) C).testBit k = true ∧ (x_ra b (x_mi (2 ^ n - 1) C) k (x_t C l)).testBit k = false ∧ x_rk b (x_ra b (x_mi (2 ^ n - 1) C) k (x_t C l)) < x_rk b (x_t (x_ra b (x_mi (2 ^ n - 1) C) k (x_t C l)) k) then x_t (x_ra b (x_mi (2 ^ n - 1) C) k (x_t C l)) k else x_ra b (x_mi (2 ^ n - 1) C) k (x_t C l) := rfl
      rw [er, x_mib, hfull, decide_eq_true (show k < n by omega), Bool.true_and] at ih
      have hGk : C.testBit k = false → (x_ra b (x_mi (2 ^ n - 1) C) k (x_t C l)).testBit k = false := by
        intro hCk
        cases hh : (x_ra b (x_mi (2 ^ n - 1) C) k (x_t C l)).testBit k
        · rfl
        · rcases x_rab k k hh with z | z
          · rw [x_tbn (fun y => by rw [y, l2] at hCk; exact Bool.noConfusion hCk), hCk] at z; exact Bool.noConfusion z
          · omega
      generalize x_ra b (x_mi (2 ^ n - 1) C) k (x_t C l) = Gk at *
      unfold w84_L29 w84_L88 w84_L90
      rw [nI_clamp (show m < 2 ^ 31 by omega), hD.2.1, b_bit0 (show C < 2 ^ 31 by omega) (show k < 32 by omega)]
      refine ⟨b_in hm (by omega), fun w => absurd w (nI_ge (by omega) (by omega)), fun _ z8 e8 => ⟨fun w z7 e7 => ?_, fun w => ?_⟩⟩
      · have hCk : C.testBit k = true := by cases hh : C.testBit k with | true => rfl | false => exact absurd hh w
        rw [if_neg (fun z => by rw [hCk] at z; exact Bool.noConfusion z.1)] at ih
        rw [e7, nI_1]; exact ih
      · have hk0 := hGk w
        rw [b_or, Nat.or_comm, hmk] at e8
        rw [e8, b_sh (by omega), b_or, b_or, x_tor0 hk0]
        have hr1 := x_rkn (b := b) Gk
        have hr2 := x_nle Gk
        refine r_rank hD (x_tl hlt (by omega)) (r_rank hD hlt ⟨fun q z7 e7 => ?_, fun q z7 e7 => ?_⟩)
        · rw [if_neg (fun z => nI_ge z.2.2 (by have := x_rkr hb (x_t Gk k); have := (r_Dn hD).2; omega) q)] at ih
          rw [e7, nI_1]; exact ih
        · rw [if_pos ⟨by rw [w]; rfl, hk0, Classical.byContradiction (fun z => q (nI_le (by omega) (by omega)))⟩, x_migo hk0 (by rw [x_tbn (fun y => by rw [y, l2] at w; exact Bool.noConfusion w), w])] at ih
          rw [e7, nI_1]; exact ih
  have first : ∀ (u k : Nat), k + u = l → w84_L2 post (u + 1) (nI m) (nI C) (nI k) iv ge gR gS gt := by
    intro u
    induction u with
    | zero =>
      intro k hk
      have : k = l := by omega
      subst this
      unfold w84_L2
      rw [b_bit0 (show C < 2 ^ 31 by omega) (show k < 32 by omega)]
      refine ⟨fun _ z ez => ⟨n + 1, ?_⟩, fun w => by rw [l2] at w; exact Bool.noConfusion w⟩
      rw [ez, b_sh (by omega), b_xor]
      have := second n 0 (by omega)
      have e0 : x_mi (x_ra b (x_mi (2 ^ n - 1) C) 0 (x_t C k)) (x_t C k) = 0 := by
        apply Nat.eq_of_testBit_eq
        intro i
        rw [x_mib, Nat.zero_testBit]
        show ((x_t C k).testBit i && !(x_t C k).testBit i) = false
        cases (x_t C k).testBit i <;> rfl
      rw [e0] at this
      exact this
    | succ u ih =>
      intro k hk
      unfold w84_L2
      rw [b_bit0 (show C < 2 ^ 31 by omega) (show k < 32 by omega)]
      refine ⟨fun w => absurd (show C.testBit k = false from ?_) w, fun _ z ez => ?_⟩
      · cases hh : C.testBit k
        · rfl
        · have := l3 k hh; omega
      · rw [ez, nI_1]; exact ih (k + 1) (by omega)
  exact ⟨l + 1, first l 0 (by omega)⟩
end RBE
