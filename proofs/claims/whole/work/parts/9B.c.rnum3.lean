/-! PURE, the reference's numbers: quotient -/
theorem pn_vs (f : Nat → Int32) : ∀ n, pn_v f (n + 1) = (f 0).toNatClampNeg + 65536 * pn_v (fun j => f (j + 1)) n
  | 0 => by show 0 + (f 0).toNatClampNeg * 1 = _ + 65536 * 0; omega
  | n + 1 => by
    have ih := pn_vs f n
    show pn_v f (n + 1) + (f (n + 1)).toNatClampNeg * 65536 ^ (n + 1) = (f 0).toNatClampNeg + 65536 * (pn_v (fun j => f (j + 1)) n + (f (n + 1)).toNatClampNeg * 65536 ^ n)
    rw [ih, Nat.pow_succ]
    grind
theorem pn_kle {f g : Nat → Int32} {k l : Nat} (hf : pn_d f k) (hg : pn_d g l) (tf : k = 0 ∨ ¬ f (k - 1) = 0) (h : pn_v f k ≤ pn_v g l) : k ≤ l := by
  refine Classical.byContradiction (fun q => ?_)
  have r1 := pn_v_ge (f := f) (k := k - 1) (by rw [show k - 1 + 1 = k by omega]; exact hf) (tf.resolve_left (by omega))
  have r2 := pn_v_lt l hg
  have r3 : 65536 ^ l ≤ 65536 ^ (k - 1) := Nat.pow_le_pow_right (by decide) (by omega)
  rw [show k - 1 + 1 = k by omega] at r1
  omega
/-- what stands above place i -/
theorem pn_hi {f : Nat → Int32} {k i : Nat} (hd : pn_d f k) (hi : i < k) : pn_v (fun j => f (i + j)) (k - i) = (f i).toNatClampNeg + 65536 * pn_v (fun j => f (i + 1 + j)) (k - (i + 1)) := by
  rw [show k - i = (k - (i + 1)) + 1 by omega, pn_vs]
  have : (fun j => (fun j => f (i + j)) (j + 1)) = (fun j => f (i + 1 + j)) := funext (fun j => by show f (i + (j + 1)) = _; rw [show i + (j + 1) = i + 1 + j by omega])
  rw [this]
  rfl
section RNQ
variable {n0 m0 m1 m2 : Int32} {f1 f2 : Nat → Int32} {k1 k2 : Nat}
theorem pn_quotI {post : Int32 → Int32 → (Nat → Int32) → Int32 → Int32 → (Nat → Int32) → Int32 → Int32 → (Nat → Int32) → Int32 → Int32 → (Nat → Int32) → Prop} {K12 : Int32 → Int32 → Int32 → (Nat → Int32) → Int32 → Int32 → (Nat → Int32) → Int32 → Int32 → (Nat → Int32) → Int32 → Int32 → (Nat → Int32) → Prop} {i R : Nat} {f0 : Nat → Int32} (hk1 : k1 ≤ 160) (hk2 : k2 ≤ 159) (hi : i < k1) (hd1 : pn_d f1 k1) (hd2 : pn_d f2 k2) (t2 : k2 = 0 ∨ ¬ f2 (k2 - 1) = 0) (hRB : R < pn_v f2 k2)
    (h : ∀ (f0' : Nat → Int32) (d : Nat), d < 65536 → f0' i = nI d → (∀ j, i < j → f0' j = f0 j) → ∀ n3 m3 f3, pn_N ⟨n3, m3, f3⟩ (((f1 i).toNatClampNeg + 65536 * R) % pn_v f2 k2 : Nat) → d = ((f1 i).toNatClampNeg + 65536 * R) / pn_v f2 k2 → K12 (nI i + (-1)) n0 m0 f0' (nI k1) m1 f1 (nI k2) m2 f2 n3 m3 f3) {kr : Nat} {fr : Nat → Int32} (hr1 : kr ≤ k2) (hr2 : pn_d fr kr) (hr3 : pn_v fr kr = R) :
    ∀ (v : Nat) (g : Nat → Int32), v ≤ kr → (∀ j, j < v → g j = fr j) → (∀ j, v < j → j ≤ kr → g j = fr (j - 1)) → nqu_L23 K12 post (v + 1) (nI i) (nI v) n0 m0 f0 (nI k1) m1 f1 (nI k2) m2 f2 (nI kr) 0 g := by
  intro v
  induction v with
  | zero =>
    intro g hv h1 h2
    obtain ⟨d1, hd1', ed1⟩ := hd1 i hi
    unfold nqu_L23 nqu_L105
    rw [nI_clamp (show i < 2 ^ 31 by omega), show Int32.toNatClampNeg 0 = 0 from rfl]
    refine ⟨fun _ => ⟨b_in (by omega) (by omega), fun z5 e5 => ⟨b_in (n := 0) (by decide) (by decide), fun z6 e6 => ?_⟩⟩, fun w => absurd (Int32.le_refl 0) w⟩
    rw [e6, nI_1]
    have hgd : pn_d (upd g 0 z5) (kr + 1) := by
      intro j hj
      by_cases q : j = 0
      · subst q; exact ⟨d1, hd1', by rw [pk_us, e5, ed1]⟩
      · obtain ⟨d, e1, e2⟩ := hr2 (j - 1) (by omega)
        exact ⟨d, e1, by rw [pk_un q, h2 j (by omega) (by omega)]; exact e2⟩
    have hgv : pn_v (upd g 0 z5) (kr + 1) = (f1 i).toNatClampNeg + 65536 * R := by
      rw [pn_vs, pk_us, e5, pn_v_congr (g := fr) kr (fun j hj => by rw [pk_un (by omega), h2 (j + 1) (by omega) (by omega)]; rfl), hr3]
    have hB : 0 < pn_v f2 k2 := by omega
    have hlt : (f1 i).toNatClampNeg + 65536 * R < 65536 * pn_v f2 k2 := by
      rw [ed1, nI_clamp (by omega)]; omega
    refine pn_trimN (z := (((f1 i).toNatClampNeg + 65536 * R : Nat) : Int)) (by omega) hgd (by rw [hgv, Int.natAbs_natCast]) (Or.inl rfl) (fun _ => by rw [if_neg (by omega)]) (fun n' m' hN => ⟨b_in (by omega) (by omega), ?_⟩)
    obtain ⟨kn, a1, a2, a3, a4, a5, a6⟩ := hN
    have a2 : n' = nI kn := a2
    have a6 : m' = 0 := by rw [show m' = _ from a6, if_neg (by omega)]
    have a3 : pn_d (upd g 0 z5) kn := a3
    have a5 : pn_v (upd g 0 z5) kn = (f1 i).toNatClampNeg + 65536 * R := by
      have : pn_v (upd g 0 z5) kn = (((f1 i).toNatClampNeg + 65536 * R : Nat) : Int).natAbs := a5
      rw [this, Int.natAbs_natCast]
    have a4 : kn = 0 ∨ ¬ (upd g 0 z5) (kn - 1) = 0 := a4
    rw [a2, a6]
    refine pn_compare a1 (by omega) a3 hd2 a4 t2 ?_
    rw [a5]
    by_cases q : (f1 i).toNatClampNeg + 65536 * R < pn_v f2 k2
    · rw [show pn_cmp ((f1 i).toNatClampNeg + 65536 * R) (pn_v f2 k2) = -1 from if_pos q]
      refine ⟨fun _ z4 e4 => ?_, fun w => absurd (by decide) w⟩
      rw [e4]
      refine h _ 0 (by decide) pk_us (fun j hj => pk_un (by omega)) _ _ _ ⟨kn, a1, rfl, a3, a4, ?_, ?_⟩ (Nat.div_eq_of_lt q).symm
      · show pn_v (upd g 0 z5) kn = _
        rw [a5, Nat.mod_eq_of_lt q, Int.natAbs_natCast]
      · rw [if_neg (by omega)]
    · have hc : ¬ pn_cmp ((f1 i).toNatClampNeg + 65536 * R) (pn_v f2 k2) < 0 := by
        unfold pn_cmp; rw [if_neg q]; split <;> decide
      refine ⟨fun w => absurd w hc, fun _ => ?_⟩
      refine pn_often (pn_kle hd2 a3 t2 (by omega)) a1 hd2 a3 rfl (by omega) (by omega) (fun n3 m3 f3 hN => ⟨b_in (by omega) (by omega), fun z4 e4 => ?_⟩)
      rw [e4]
      rw [a5] at hN ⊢
      have hq : ((f1 i).toNatClampNeg + 65536 * R) / pn_v f2 k2 < 65536 := Nat.div_lt_of_lt_mul (by omega)
      exact h _ _ hq pk_us (fun j hj => by rw [pk_un (by omega), pk_un (by omega)]) _ _ _ hN rfl
  | succ v ih =>
    intro g hv h1 h2
    unfold nqu_L23
    rw [show nI (v + 1) - 1 = nI v from nI_pred v, nI_clamp (show v < 2 ^ 31 by omega), nI_clamp (show v + 1 < 2 ^ 31 by omega)]
    refine ⟨fun w => absurd w (nI_nle (by omega) (by omega)), fun _ => ⟨b_in (by omega) (by omega), fun z22 e22 => ⟨b_in (by omega) (by omega), fun z23 e23 => ?_⟩⟩⟩
    have e23 : z23 = nI v := by rw [e23, ← nI_pred v]; grind
    rw [e23]
    refine ih _ (by omega) (fun j hj => by rw [pk_un (by omega)]; exact h1 j (by omega)) (fun j hj hj' => ?_)
    by_cases q : j = v + 1
    · subst q; rw [pk_us, e22, Nat.add_sub_cancel]; exact h1 v (by omega)
    · rw [pk_un q]; exact h2 j (by omega) hj'
/-- quotient: toward 0, and the sizes' remainder -/
theorem pn_quot {post : Int32 → Int32 → (Nat → Int32) → Int32 → Int32 → (Nat → Int32) → Int32 → Int32 → (Nat → Int32) → Int32 → Int32 → (Nat → Int32) → Prop} {x y : Int} {m3 n3 : Int32} {f0 f3 : Nat → Int32} (hk1 : k1 ≤ 160) (hk2 : k2 ≤ 159) (hd1 : pn_d f1 k1) (hd2 : pn_d f2 k2) (t1 : k1 = 0 ∨ ¬ f1 (k1 - 1) = 0) (t2 : k2 = 0 ∨ ¬ f2 (k2 - 1) = 0) (v1 : pn_v f1 k1 = x.natAbs) (v2 : pn_v f2 k2 = y.natAbs) (s1 : m1 = (if x < 0 then 1 else 0)) (s2 : m2 = (if y < 0 then 1 else 0)) (hy : y ≠ 0)
    (h : ∀ n0' m0' f0' n3' m3' f3', pn_N ⟨n0', m0', f0'⟩ (x.tdiv y) → pn_N ⟨n3', m3', f3'⟩ ((x.natAbs % y.natAbs : Nat) : Int) → post n0' m0' f0' (nI k1) m1 f1 (nI k2) m2 f2 n3' m3' f3') : nqu_wp post n0 m0 f0 (nI k1) m1 f1 (nI k2) m2 f2 n3 m3 f3 := by
  have hy0 : 0 < y.natAbs := by omega
  have main : ∀ (i : Nat) (f0 : Nat → Int32) (R : Nat) (n3 m3 : Int32) (f3 : Nat → Int32), i ≤ k1 → (∀ j, i ≤ j → j < k1 → ∃ d, d < 65536 ∧ f0 j = nI d) → pn_N ⟨n3, m3, f3⟩ (R : Int) → R < y.natAbs → pn_v (fun j => f0 (i + j)) (k1 - i) * y.natAbs + R = pn_v (fun j => f1 (i + j)) (k1 - i) → nqu_L12 post (i + 1) (nI i - 1) n0 m0 f0 (nI k1) m1 f1 (nI k2) m2 f2 n3 m3 f3 := by
    intro i
    induction i with
    | zero =>
      intro f0 R n3 m3 f3 hi hf0 hN hR hv
      have hv : pn_v f0 k1 * y.natAbs + R = pn_v f1 k1 := by
        have e1 : (fun j => f0 (0 + j)) = f0 := funext (fun j => by rw [Nat.zero_add])
        have e2 : (fun j => f1 (0 + j)) = f1 := funext (fun j => by rw [Nat.zero_add])
        rw [e1, e2] at hv; exact hv
      rw [v1] at hv
      have hq : x.natAbs / y.natAbs = pn_v f0 k1 := by
        rw [← hv, Nat.add_comm, Nat.add_mul_div_right _ _ hy0, Nat.div_eq_of_lt hR, Nat.zero_add]
      have hr : x.natAbs % y.natAbs = R := by
        rw [← hv, Nat.add_comm, Nat.add_mul_mod_self_right, Nat.mod_eq_of_lt hR]
      have hq' : (x.tdiv y).natAbs = pn_v f0 k1 := by rw [Int.natAbs_tdiv]; exact hq
      have hf0d : pn_d f0 k1 := fun j hj => hf0 j (by omega) hj
      have fin : ∀ y0 : Int32, (y0 = 0 ∨ y0 = 1) → (¬ x.tdiv y = 0 → y0 = (if x.tdiv y < 0 then 1 else 0)) → nqu_L136 post (nI 0 - 1) y0 (nI k1) m0 f0 (nI k1) m1 f1 (nI k2) m2 f2 n3 m3 f3 := by
        intro y0 hy0 hs
        refine ⟨pn_bool hy0, pn_trimN (z := x.tdiv y) hk1 hf0d hq'.symm hy0 hs (fun n' m' q => h n' m' f0 n3 m3 f3 q (by rw [hr]; exact hN))⟩
      have hsg : ¬ x.tdiv y = 0 → ((x < 0 ↔ y < 0) ↔ ¬ x.tdiv y < 0) := by
        intro hne
        rcases Int.lt_trichotomy x 0 with a | a | a
        · rcases Int.lt_trichotomy y 0 with b | b | b
          · have := Int.tdiv_nonneg_of_nonpos_of_nonpos (a := x) (b := y) (by omega) (by omega)
            omega
          · exact absurd b hy
          · have := Int.tdiv_nonneg (a := -x) (b := y) (by omega) (by omega)
            rw [Int.neg_tdiv] at this
            omega
        · rw [a, Int.zero_tdiv] at hne; exact absurd rfl hne
        · rcases Int.lt_trichotomy y 0 with b | b | b
          · have : x.tdiv y ≤ 0 := Int.tdiv_nonpos_of_nonneg_of_nonpos (by omega) (by omega)
            omega
          · exact absurd b hy
          · have := Int.tdiv_nonneg (a := x) (b := y) (by omega) (by omega)
            omega
      unfold nqu_L12
      refine ⟨fun _ => ⟨fun w => fin 0 (Or.inl rfl) (fun hne => ?_), fun w => fin 1 (Or.inr rfl) (fun hne => ?_)⟩, fun w => absurd (by decide) w⟩
      · rw [s1, s2, b_ite2, hsg hne] at w; rw [if_neg w]
      · rw [s1, s2, b_ite2, hsg hne] at w; rw [if_pos (Classical.not_not.mp w)]
    | succ i ih =>
      intro f0 R n3 m3 f3 hi hf0 hN hR hv
      obtain ⟨kr, a1, a2, a3, a4, a5, a6⟩ := hN
      have a2 : n3 = nI kr := a2
      have a6 : m3 = 0 := by rw [show m3 = _ from a6, if_neg (by omega)]
      have a5 : pn_v f3 kr = R := by
        have : pn_v f3 kr = (R : Int).natAbs := a5
        rw [this, Int.natAbs_natCast]
      have hkr : kr ≤ k2 := pn_kle a3 hd2 a4 (by show pn_v f3 kr ≤ _; omega)
      unfold nqu_L12
      rw [nI_pred]
      refine ⟨fun w => absurd w (nI_pos (by omega)), fun _ => ⟨kr + 1, ?_⟩⟩
      rw [a2, a6]
      refine pn_quotI hk1 hk2 (by omega) hd1 hd2 t2 (R := R) (by omega) (fun f0' d hd he hu n3' m3' f3' hN' hdq => ?_) hkr a3 a5 kr f3 (Nat.le_refl kr) (fun _ _ => rfl) (fun j h1 h2 => by omega)
      rw [v2] at hN' hdq
      have e : nI i + (-1) = nI i - 1 := by grind
      rw [e]
      refine ih f0' _ n3' m3' f3' (by omega) (fun j h1 h2 => ?_) hN' (Nat.mod_lt _ hy0) ?_
      · by_cases q : j = i
        · subst q; exact ⟨d, hd, he⟩
        · rw [hu j (by omega)]; exact hf0 j (by omega) h2
      · have hf0' : ∀ j, i ≤ j → j < k1 → ∃ d, d < 65536 ∧ f0' j = nI d := fun j h1 h2 => by
          by_cases q : j = i
          · subst q; exact ⟨d, hd, he⟩
          · rw [hu j (by omega)]; exact hf0 j (by omega) h2
        have p1 : pn_v (fun j => f0' (i + j)) (k1 - i) = d + 65536 * pn_v (fun j => f0 (i + 1 + j)) (k1 - (i + 1)) := by
          rw [show k1 - i = (k1 - (i + 1)) + 1 by omega, pn_vs]
          have e0 : (f0' (i + 0)).toNatClampNeg = d := by rw [Nat.add_zero, he, nI_clamp (by omega)]
          have e1 : pn_v (fun j => f0' (i + (j + 1))) (k1 - (i + 1)) = pn_v (fun j => f0 (i + 1 + j)) (k1 - (i + 1)) := pn_v_congr _ (fun j hj => by
            show f0' (i + (j + 1)) = f0 (i + 1 + j)
            rw [hu _ (by omega), show i + (j + 1) = i + 1 + j by omega])
          rw [← e1]
          show (f0' (i + 0)).toNatClampNeg + _ = _
          rw [e0]
        rw [p1, pn_hi hd1 (by omega), ← hv, hdq]
        have := Nat.div_add_mod ((f1 i).toNatClampNeg + 65536 * R) y.natAbs
        generalize ((f1 i).toNatClampNeg + 65536 * R) / y.natAbs = Q at *
        generalize ((f1 i).toNatClampNeg + 65536 * R) % y.natAbs = r at *
        generalize y.natAbs = Y at *
        generalize pn_v (fun j => f0 (i + 1 + j)) (k1 - (i + 1)) = W at *
        grind
  unfold nqu_wp nz_wp
  intro z27 e27
  rw [e27]
  refine ⟨k1 + 1, main k1 f0 0 0 0 f3 (Nat.le_refl k1) (fun j h1 h2 => by omega) ⟨0, by decide, rfl, fun i hi => absurd hi (Nat.not_lt_zero i), Or.inl rfl, rfl, rfl⟩ hy0 ?_⟩
  rw [Nat.sub_self]
  show 0 * _ + 0 = 0
  omega
end RNQ
