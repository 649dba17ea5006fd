/-! PURE: the class's rows kept, and the space of all rows -/
theorem x_wne {R : Type} [Lean.Grind.CommRing R] {v f : Nat → R} {T : Nat} (h : ¬ x_w v f T = 0) : ∃ e, e < 12 ∧ T.testBit e = true ∧ (¬ v e = 0) ∧ ¬ f (x_t T e) = 0 := Classical.byContradiction (fun w => h (x_sm0 12 (fun e he => by
  by_cases q : T.testBit e = true
  · rw [if_pos q]
    by_cases q1 : v e = 0
    · rw [q1]; grind
    · by_cases q2 : f (x_t T e) = 0
      · rw [q2]; grind
      · exact absurd ⟨e, he, q, q1, q2⟩ w
  · rw [if_neg q])))
section RAW
variable {p n : Nat} {R : Nat → Nat → Int}
/-- of the rows up to i: those kept are rows, and span the others -/
theorem x_rawI {F : Type} [Lean.Grind.CommRing F] {φ : Int → F} (hm : x_hm p F φ) (hn : n ≤ 12) (hz : ∀ i, x_z0 n (R i)) : ∀ i, (∀ j, j < (x_gk p n R i).1 → ∃ i', i' < i ∧ (x_gk p n R i).2 j = R i') ∧ (∀ i', i' < i → x_Z (x_W (fun j => x_ro φ ((x_gk p n R i).2 j)) (x_gk p n R i).1) (x_ro φ (R i')))
  | 0 => ⟨fun j hj => absurd hj (Nat.not_lt_zero j), fun i' hi' => absurd hi' (Nat.not_lt_zero i')⟩
  | i + 1 => by
    obtain ⟨a1, a2⟩ := x_rawI hm hn hz i
    have m4 := hm.2.2.2.1
    have m6 := hm.2.2.2.2.2.1
    have hs : x_gk p n R (i + 1) = if x_gad p n (R i) (x_gk p n R i) = true then ((x_gk p n R i).1 + 1, fun j => if j = (x_gk p n R i).1 then R i else (x_gk p n R i).2 j) else x_gk p n R i := rfl
    rw [hs]
    generalize x_gk p n R i = s at *
    obtain ⟨h, k⟩ := s
    have a1 : ∀ j, j < h → ∃ i', i' < i ∧ k j = R i' := a1
    have a2 : ∀ i', i' < i → x_Z (x_W (fun j => x_ro φ (k j)) h) (x_ro φ (R i')) := a2
    by_cases q : x_gad p n (R i) (h, k) = true
    · rw [if_pos q]
      have ec : ∀ S, x_W (fun j => x_ro φ (if j = h then R i else k j)) h S = x_W (fun j => x_ro φ (k j)) h S := fun S => x_Wc h (fun j hj e _ => by show φ ((if j = h then R i else k j) e) = φ (k j e); rw [if_neg (by omega)]) S
      refine ⟨fun j hj => ?_, fun i' hi' S => ?_⟩
      · have hj : j < h + 1 := hj
        show ∃ i', i' < i + 1 ∧ (if j = h then R i else k j) = R i'
        by_cases w : j = h
        · rw [if_pos w]; exact ⟨i, by omega, rfl⟩
        · rw [if_neg w]
          obtain ⟨i', b1, b2⟩ := a1 j (by omega)
          exact ⟨i', by omega, b2⟩
      · show x_w (x_ro φ (R i')) (x_W (fun j => x_ro φ (if j = h then R i else k j)) (h + 1)) S = 0
        have e1 : ∀ T, x_W (fun j => x_ro φ (if j = h then R i else k j)) (h + 1) T = x_w (x_ro φ (R i)) (x_W (fun j => x_ro φ (k j)) h) T := fun T => by
          rw [x_Ws]
          show x_w (x_ro φ (if h = h then R i else k h)) _ T = _
          rw [if_pos rfl]
          exact x_wcf _ T ec
        rw [x_wcf _ S e1]
        by_cases w : i' = i
        · rw [w]; exact x_ww0 _ _ S
        · rw [x_wwa, x_wz _ _ (fun T => a2 i' (by omega) T)]
          grind
    · rw [if_neg q]
      refine ⟨fun j hj => ?_, fun i' hi' => ?_⟩
      · obtain ⟨i', b1, b2⟩ := a1 j hj
        exact ⟨i', by omega, b2⟩
      · show x_Z (x_W (fun j => x_ro φ (k j)) h) (x_ro φ (R i'))
        by_cases w : i' = i
        · subst w
          intro T
          refine Classical.byContradiction (fun hne => ?_)
          obtain ⟨e, e1, e2, e3, e4⟩ := x_wne hne
          have e3 : ¬ φ (R i' e) = 0 := e3
          have hen : e < n := Classical.byContradiction (fun z => e3 (by rw [hz i' e (by omega), m4]))
          have hlo := x_Wlo (p := fun j => x_ro φ (k j)) hn (fun j hj c hc hcn => by
            obtain ⟨i2, b1, b2⟩ := a1 j hj
            show φ (k j c) = 0
            rw [b2, hz i2 c hcn, m4]) e4
          have hTn : T < 2 ^ n := by
            have := x_tl hlo.1 hen
            rw [x_tt] at this; exact this
          have hTs : x_n T = h + 1 := by rw [x_nt1 e1 e2, hlo.2]
          refine q ((x_gadi p n (R i') (h, k)).2 ⟨T, hTn, hTs, fun hz0 => hne ?_⟩)
          have hmw : x_md p (x_w (R i') (x_za p n k h) T) = x_md p (x_w (R i') (x_W k h) T) := x_mdw p (R i') (fun e' he' hb' => by
            have hn1 := x_nt1 he' hb'
            have hlt : x_t T e' < 2 ^ n := by
              have he'n : e' < n := Classical.byContradiction (fun z => by rw [x_hi hTn (by omega)] at hb'; exact Bool.noConfusion hb')
              exact x_tl hTn he'n
            unfold x_za
            rw [if_pos ⟨hlt, by omega⟩, show x_n (x_t T e') = h by omega])
          have hz0 : x_md p (x_w (R i') (x_za p n k h) T) = 0 := hz0
          rw [hmw, ← m6, x_hmw hm] at hz0
          rw [← hz0]
          exact x_wcf _ T (fun S => (x_hmW hm k h S).symm)
        · exact a2 i' (by omega)
theorem x_rawG {k : Nat} (hp : x_pm p) (hn : n ≤ 12) (hz : ∀ i, x_z0 n (R i)) (hR : ∀ i e, (R i e).natAbs ≤ 999) : x_gh p n (x_gk p n R k).1 (x_W (x_gk p n R k).2 (x_gk p n R k).1) ∧ x_of2 p k R (x_W (x_gk p n R k).2 (x_gk p n R k).1) := by
  have hb := x_gkb (p := p) hn hR k
  have hgn := x_gkn (p := p) (R := R) hn k
  have hne : ∃ S, ¬ x_md p (x_W (x_gk p n R k).2 (x_gk p n R k).1 S) = 0 := by
    by_cases q : (x_gk p n R k).1 = 0
    · refine ⟨0, ?_⟩
      rw [q]
      show ¬ x_md p (if (0 : Nat) = 0 then 1 else 0) = 0
      rw [if_pos rfl]
      unfold x_md
      rcases hp with w | w
      · rw [if_pos w]; decide
      · rw [if_neg (by omega), Int.emod_eq_of_lt (by decide) (by omega)]; decide
    · obtain ⟨T, t1, t2, t3⟩ := hgn ((x_gk p n R k).1 - 1) (by omega)
      rw [show (x_gk p n R k).1 - 1 + 1 = (x_gk p n R k).1 by omega] at t3
      exact ⟨T, t3⟩
  refine ⟨⟨hn, fun S hS => ?_, hne, fun _ => x_ta0 (fun S => ?_)⟩, fun F _ φ hm => ?_⟩
  · obtain ⟨F, _, φ, hm⟩ := x_hmex hp
    obtain ⟨a1, a2⟩ := x_rawI hm hn hz k
    have m4 := hm.2.2.2.1
    refine x_Wlo (p := fun j => x_ro φ ((x_gk p n R k).2 j)) hn (fun j hj c hc hcn => ?_) (fun q => hS ?_)
    · obtain ⟨i2, b1, b2⟩ := a1 j hj
      show φ ((x_gk p n R k).2 j c) = 0
      rw [b2, hz i2 c hcn, m4]
    · rw [← hm.2.2.2.2.2.1, x_hmW hm]; exact q
  · by_cases q : x_W (x_gk p n R k).2 (x_gk p n R k).1 S = 0
    · rw [q]; exact Nat.zero_le _
    · have h12 := (x_Wsz _ q).1
      have := x_small (x_gk p n R k).2 (x_gk p n R k).1 (by omega) (fun i hi e _ => by have := hb.2.2 i e; omega) S h12
      have h3 : ((2 : Int)) ^ 142 = ((2 ^ 142 : Nat) : Int) := by decide +kernel
      omega
  · obtain ⟨a1, a2⟩ := x_rawI hm hn hz k
    have hd := hm.1
    have hcl := x_spnc φ k R
    have e : (fun S => φ (x_W (x_gk p n R k).2 (x_gk p n R k).1 S)) = x_W (fun j => x_ro φ ((x_gk p n R k).2 j)) (x_gk p n R k).1 := by
      funext S; exact x_hmW hm _ _ S
    rw [e]
    refine ⟨x_spn φ k R, hcl, fun i hi => x_spnr hi, fun v hv => hv, x_WE2 hcl (fun j hj => ?_), x_WE3 hd (fun v hv => hv _ (x_Zc hd _) a2)⟩
    obtain ⟨i2, b1, b2⟩ := a1 j hj
    show x_spn φ k R (x_ro φ ((x_gk p n R k).2 j))
    rw [b2]
    exact x_spnr b1
end RAW
/-- two matrices of one space -/
theorem x_of2c {p k k' : Nat} {A A' : Nat → Nat → Int} {g : Nat → Int} (h : x_of2 p k A g) (he : ∀ (F : Type) [Lean.Grind.CommRing F] (φ : Int → F), x_hm p F φ → ∀ Q : (Nat → F) → Prop, x_cl Q → ((∀ i, i < k → Q (x_ro φ (A i))) ↔ ∀ i, i < k' → Q (x_ro φ (A' i)))) : x_of2 p k' A' g := fun F _ φ hm => by
  obtain ⟨P, P1, P2, P3, P4, P5⟩ := h F φ hm
  exact ⟨P, P1, (he F φ hm P P1).1 P2, fun v hv Q hQ hr => P3 v hv Q hQ ((he F φ hm Q hQ).2 hr), P4, P5⟩
/-- e over k -/
def x_bin : Nat → Nat → Nat
  | _, 0 => 1
  | 0, _ + 1 => 0
  | e + 1, k + 1 => x_bin e k + x_bin e (k + 1)
def x_biA (n k e : Nat) : Int := if e < n then (x_bin e k : Int) else 0
theorem x_binm : ∀ e k, (k + 1) * x_bin e (k + 1) + k * x_bin e k = e * x_bin e k
  | 0, 0 => rfl
  | 0, k + 1 => by
    show (k + 2) * 0 + (k + 1) * 0 = 0 * 0
    rw [Nat.mul_zero, Nat.mul_zero]
  | e + 1, 0 => by
    have ih : 1 * x_bin e 1 + 0 * x_bin e 0 = e * x_bin e 0 := x_binm e 0
    have h0 : x_bin e 0 = 1 := by cases e <;> rfl
    show 1 * (x_bin e 0 + x_bin e 1) + 0 * 1 = (e + 1) * 1
    rw [h0] at ih ⊢
    omega
  | e + 1, k + 1 => by
    have i1 := x_binm e k
    have i2 := x_binm e (k + 1)
    show (k + 2) * (x_bin e (k + 1) + x_bin e (k + 2)) + (k + 1) * (x_bin e k + x_bin e (k + 1)) = (e + 1) * (x_bin e k + x_bin e (k + 1))
    generalize x_bin e k = a at *
    generalize x_bin e (k + 1) = c at *
    generalize x_bin e (k + 2) = d at *
    grind
theorem x_clml {F : Type} [Lean.Grind.CommRing F] {P : (Nat → F) → Prop} (hP : x_cl P) (t : Nat → F) : x_cl (fun v => P (fun e => t e * v e)) := by
  refine ⟨hP.2.2.1 _ _ (fun e _ => ?_) hP.1, fun a b u v hu hv => hP.2.2.1 _ _ (fun e _ => ?_) (hP.2.1 a b _ _ hu hv), fun u v he hu => hP.2.2.1 _ _ (fun e h => ?_) hu, fun a u ha hu => hP.2.2.2 a _ ha (hP.2.2.1 _ _ (fun e _ => ?_) hu)⟩
  · show 0 = t e * 0
    grind
  · show a * (t e * u e) + b * (t e * v e) = t e * (a * u e + b * v e)
    grind
  · show t e * u e = t e * v e
    rw [he e h]
  · show t e * (a * u e) = a * (t e * u e)
    grind
/-- the powers of e and the rows e over k span one space -/
theorem x_uniS {n : Nat} {F : Type} [Lean.Grind.CommRing F] {φ : Int → F} (hm : x_hm 0 F φ) {Q : (Nat → F) → Prop} (hQ : x_cl Q) (r : Nat) : (∀ i, i < r → Q (x_ro φ (x_biA n i))) ↔ ∀ i, i < r → Q (x_ro φ (x_unA n i)) := by
  obtain ⟨m1, m2, m3, m4, m5, m6, m7, m8⟩ := id hm
  -- spans of the first rows
  have V : ∀ k, ∀ Q : (Nat → F) → Prop, x_cl Q → (∀ i, i ≤ k → Q (x_ro φ (x_biA n i))) → Q (x_ro φ (x_unA n k)) := fun k => by
    induction k with
    | zero =>
      intro Q hQ h
      refine hQ.2.2.1 _ _ (fun e _ => ?_) (h 0 (Nat.le_refl 0))
      show φ (if e < n then (x_bin e 0 : Int) else 0) = φ (if e < n then (e : Int) ^ 0 else 0)
      have h0 : x_bin e 0 = 1 := by cases e <;> rfl
      rw [h0, Int.pow_zero]; rfl
    | succ k ih =>
      intro Q hQ h
      have h1 := ih _ (x_clml hQ (fun e => φ (e : Int))) (fun i hi => ?_)
      · refine hQ.2.2.1 _ _ (fun e _ => ?_) h1
        show φ (e : Int) * φ (if e < n then (e : Int) ^ k else 0) = φ (if e < n then (e : Int) ^ (k + 1) else 0)
        rw [← m3]
        split
        · rw [Int.pow_succ, Int.mul_comm]
        · rw [Int.mul_zero]
      · refine hQ.2.2.1 _ _ (fun e _ => ?_) (hQ.2.1 (φ ((i + 1 : Nat) : Int)) (φ ((i : Nat) : Int)) _ _ (h (i + 1) (by omega)) (h i (by omega)))
        show φ ((i + 1 : Nat) : Int) * φ (if e < n then (x_bin e (i + 1) : Int) else 0) + φ (i : Int) * φ (if e < n then (x_bin e i : Int) else 0) = φ (e : Int) * φ (if e < n then (x_bin e i : Int) else 0)
        rw [← m3, ← m3, ← m3, ← m2]
        congr 1
        split
        · have := x_binm e i
          have h2 : (((i + 1) * x_bin e (i + 1) + i * x_bin e i : Nat) : Int) = ((e * x_bin e i : Nat) : Int) := by rw [this]
          rw [Int.natCast_add, Int.natCast_mul, Int.natCast_mul, Int.natCast_mul] at h2
          exact h2
        · grind
  have C : ∀ k, ∀ Q : (Nat → F) → Prop, x_cl Q → (∀ i, i ≤ k → Q (x_ro φ (x_unA n i))) → Q (x_ro φ (x_biA n k)) := fun k => by
    induction k with
    | zero =>
      intro Q hQ h
      refine hQ.2.2.1 _ _ (fun e _ => ?_) (h 0 (Nat.le_refl 0))
      show φ (if e < n then (e : Int) ^ 0 else 0) = φ (if e < n then (x_bin e 0 : Int) else 0)
      have h0 : x_bin e 0 = 1 := by cases e <;> rfl
      rw [h0, Int.pow_zero]; rfl
    | succ k ih =>
      intro Q hQ h
      have h1 := ih _ (x_clml hQ (fun e => φ ((e : Int) - (k : Int)))) (fun i hi => ?_)
      · refine hQ.2.2.2 (φ ((k + 1 : Nat) : Int)) _ (fun q => ?_) (hQ.2.2.1 _ _ (fun e _ => ?_) h1)
        · rw [m6, x_md0] at q; omega
        · show φ ((e : Int) - (k : Int)) * φ (if e < n then (x_bin e k : Int) else 0) = φ ((k + 1 : Nat) : Int) * φ (if e < n then (x_bin e (k + 1) : Int) else 0)
          rw [← m3, ← m3]
          congr 1
          split
          · have := x_binm e k
            have h2 : (((k + 1) * x_bin e (k + 1) + k * x_bin e k : Nat) : Int) = ((e * x_bin e k : Nat) : Int) := by rw [this]
            rw [Int.natCast_add, Int.natCast_mul, Int.natCast_mul, Int.natCast_mul] at h2
            grind
          · grind
      · refine hQ.2.2.1 _ _ (fun e _ => ?_) (hQ.2.1 1 (φ (-(k : Int))) _ _ (h (i + 1) (by omega)) (h i (by omega)))
        show 1 * φ (if e < n then (e : Int) ^ (i + 1) else 0) + φ (-(k : Int)) * φ (if e < n then (e : Int) ^ i else 0) = φ ((e : Int) - (k : Int)) * φ (if e < n then (e : Int) ^ i else 0)
        rw [← m5, ← m3, ← m3, ← m3, ← m2]
        congr 1
        split
        · rw [Int.pow_succ]; grind
        · grind
  constructor
  · intro h i hi; exact V i Q hQ (fun i' hi' => h i' (by omega))
  · intro h i hi; exact C i Q hQ (fun i' hi' => h i' (by omega))
