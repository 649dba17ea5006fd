/-! PURE: the rows that are shown, by the ghost form -/
theorem x_faC {P Q : Nat → List Nat} : ∀ (u i : Nat), (∀ k, i ≤ k → k < i + u → P k = Q k) → x_fa P u i = x_fa Q u i
  | 0, _, _ => rfl
  | u + 1, i, h => by
    show P i ++ x_fa P u (i + 1) = Q i ++ x_fa Q u (i + 1)
    rw [h i (Nat.le_refl i) (by omega), x_faC u (i + 1) (fun k h1 h2 => h k (by omega) (by omega))]
/-- the row of q in the basis B -/
def x_shG (p n : Nat) (g : Nat → Int) (B q : Nat) : List Nat := x_fa (fun e => (if e = 0 then [] else [32]) ++ x_rat p (x_u g (x_t B q) e) (x_u g (x_t B q) q)) n 0 ++ [10]
def x_shT (p n : Nat) (g : Nat → Int) : List Nat := x_fa (fun q => if (x_ra (x_bg p g) (2 ^ n - 1) n 0).testBit q = true then x_shG p n g (x_ra (x_bg p g) (2 ^ n - 1) n 0) q else []) n 0
theorem x_hmu {p : Nat} {F : Type} [Lean.Grind.CommRing F] {φ : Int → F} (h : x_hm p F φ) (g : Nat → Int) (T e : Nat) : φ (x_u g T e) = x_u (fun S => φ (g S)) T e := by
  unfold x_u
  by_cases q : T.testBit e = true
  · rw [if_pos q, if_pos q, h.2.2.2.1]
  · rw [if_neg q, if_neg q, h.2.2.1, x_hms h]
section SHG
variable {p n r : Nat} {piv : Nat → Nat} {K : Nat → Nat → Int} {g : Nat → Int}
theorem x_KKne (hK : x_KK p n r piv K) : ∀ i i', i < i' → i' < r → piv i ≠ piv i' := fun i i' h1 h2 q => by
  have := hK.2.2.2.2.1 i i' h1 h2
  omega
theorem x_psg (hp : x_pm p) (hK : x_KK p n r piv K) (h : x_pp p r K g) : ¬ x_md p (g (x_ps piv r)) = 0 := by
  obtain ⟨F, _, φ, hm⟩ := x_hmex hp
  intro q
  have q2 := (x_ppz hp h (x_ps piv r)).2 q
  obtain ⟨k1, k2, k3, k4, k5, k6, k7, k8, k9⟩ := id hK
  have h1 := x_psW hm.1 (p := fun i => x_ro φ (K i)) (piv := piv) r (x_KKne hK) (fun i hi => ⟨by have := (k3 i hi).1; omega, fun w => ?_⟩) (fun i i' a b c => ?_)
  · rw [← x_hmW hm] at h1
    exact h1 ((hm.2.2.2.2.2.1 _).2 q2)
  · have w2 : φ (K i (piv i)) = 0 := w
    rw [hm.2.2.2.2.2.1] at w2
    by_cases p0 : p = 0
    · rw [p0, x_md0] at w2
      have := (k3 i hi).2
      omega
    · rw [(k9 p0 i hi).2] at w2
      unfold x_md at w2
      rw [if_neg p0] at w2
      have := (hp.resolve_left p0).1
      rw [Int.emod_eq_of_lt (by decide) (by omega)] at w2
      exact absurd w2 (by decide)
  · show φ (K i' (piv i)) = 0
    rw [k4 i i' a b c, hm.2.2.2.1]
/-- a kept row is what the form leaves over, up to a factor -/
theorem x_Kg (hp : x_pm p) (hK : x_KK p n r piv K) (h : x_pp p r K g) {i j : Nat} (hi : i < r) (hj : j < n) : x_md p (x_u g (x_t (x_ps piv r) (piv i)) j * K i (piv i)) = x_md p (K i j * x_u g (x_t (x_ps piv r) (piv i)) (piv i)) := by
  obtain ⟨F, _, φ, hm⟩ := x_hmex hp
  obtain ⟨k1, k2, k3, k4, k5, k6, k7, k8, k9⟩ := id hK
  have hb := x_psb (piv := piv) r (x_KKne hK)
  have hpi := (k3 i hi).1
  have hT : ∀ e, (x_t (x_ps piv r) (piv i)).testBit e = true → ∃ i', i' < r ∧ i' ≠ i ∧ piv i' = e := fun e he => by
    by_cases q : e = piv i
    · rw [q, x_tbs, (hb (piv i)).2 ⟨i, hi, rfl⟩] at he; exact Bool.noConfusion he
    · rw [x_tbn q] at he
      obtain ⟨i', h1, h2⟩ := (hb e).1 he
      exact ⟨i', h1, fun w => q (by rw [← h2, w]), h2⟩
  by_cases q : (x_t (x_ps piv r) (piv i)).testBit j = true
  · obtain ⟨i', h1, h2, h3⟩ := hT j q
    have e1 : x_u g (x_t (x_ps piv r) (piv i)) j = 0 := by unfold x_u; rw [if_pos q]
    have e2 : K i j = 0 := by rw [← h3]; exact k4 i' i h1 hi (fun w => h2 w.symm)
    rw [e1, e2, Int.zero_mul, Int.zero_mul]
  · have q : (x_t (x_ps piv r) (piv i)).testBit j = false := by
      cases w : (x_t (x_ps piv r) (piv i)).testBit j
      · rfl
      · exact absurd w q
    obtain ⟨a, b, ha, hb2, he⟩ := (x_ppR hm).1 h
    have hZ : x_Z (fun S => φ (g S)) (x_ro φ (K i)) := (x_Zp hm.1 ha hb2 he _).1 (x_Wrow (p := fun i => x_ro φ (K i)) hi)
    have hv : ∀ e, e < 12 → (x_t (x_ps piv r) (piv i)).testBit e = true → x_ro φ (K i) e = 0 := fun e _ he => by
      obtain ⟨i', h1, h2, h3⟩ := hT e he
      show φ (K i e) = 0
      rw [← h3, k4 i' i h1 hi (fun w => h2 w.symm), hm.2.2.2.1]
    have := x_prp (v := x_ro φ (K i)) (f := fun S => φ (g S)) (T := x_t (x_ps piv r) (piv i)) (j := j) (e := piv i) (by omega) q (by omega) hv hZ
    rw [← hm.2.2.2.2.2.2.2, hm.2.2.1, hm.2.2.1, x_hmu hm, x_hmu hm]
    exact this
theorem x_KKz (hp : x_pm p) (hK : x_KK p n r piv K) {i : Nat} (hi : i < r) : ¬ x_md p (K i (piv i)) = 0 := by
  obtain ⟨k1, k2, k3, k4, k5, k6, k7, k8, k9⟩ := id hK
  by_cases p0 : p = 0
  · rw [p0, x_md0]
    have := (k3 i hi).2
    omega
  · rw [(k9 p0 i hi).2]
    unfold x_md
    rw [if_neg p0]
    have := (hp.resolve_left p0).1
    rw [Int.emod_eq_of_lt (by decide) (by omega)]
    decide
theorem x_ugz (hp : x_pm p) (hK : x_KK p n r piv K) (h : x_pp p r K g) {i : Nat} (hi : i < r) : ¬ x_md p (x_u g (x_t (x_ps piv r) (piv i)) (piv i)) = 0 := by
  have hb := (x_psb (piv := piv) r (x_KKne hK) (piv i)).2 ⟨i, hi, rfl⟩
  unfold x_u
  rw [if_neg (by rw [x_tbs, hb]; decide), x_tt, x_mds hp]
  exact x_psg hp hK h
theorem x_shrG (hp : x_pm p) (hK : x_KK p n r piv K) (h : x_pp p r K g) {i : Nat} (hi : i < r) : x_shr p n piv K i = x_shG p n g (x_ps piv r) (piv i) := by
  unfold x_shr x_shG
  congr 1
  refine x_faC n 0 (fun j _ hj => ?_)
  have hj : j < n := by omega
  unfold x_shc
  congr 1
  have e1 : (if p = 0 then x_rt0 false (K i j) (K i (piv i)) else x_dg (K i j).toNat) = x_rat p (K i j) (K i (piv i)) := by
    unfold x_rat
    by_cases p0 : p = 0
    · rw [if_pos p0, if_pos p0]
    · rw [if_neg p0, if_neg p0]
      obtain ⟨k1, k2, k3, k4, k5, k6, k7, k8, k9⟩ := id hK
      have r1 := (k9 p0 i hi).1 j
      have r2 := (k9 p0 i hi).2
      have hp1 := (hp.resolve_left p0).1
      have m1 : x_md p (K i j) = K i j := by unfold x_md; rw [if_neg p0, Int.emod_eq_of_lt r1.1 r1.2]
      have m2 : (x_md p (1 : Int)).toNat = 1 := by unfold x_md; rw [if_neg p0, Int.emod_eq_of_lt (by decide) (by omega)]; rfl
      have m3 : x_inv p 1 = 1 := x_inv1 hp1 (by rw [Nat.mod_eq_of_lt (by omega)]) (fun d d1 d2 => by omega)
      rw [m1, r2, m2, m3, Nat.mul_one, Nat.mod_eq_of_lt (by omega)]
  rw [e1]
  refine x_ratE hp (x_KKz hp hK hi) (x_ugz hp hK h hi) ?_
  exact (x_Kg hp hK h hi hj).symm
end SHG
/-- the basis of the pivots is the one that grows from below -/
theorem x_raB {n r B : Nat} {b : Nat → Bool} (h : x_M n r b) (hB : b B = true) (hq : ∀ e q, e < n → q < 12 → B.testBit e = false → B.testBit q = true → e < q → b (x_t (x_t B q) e) = false) : ∀ k, k ≤ n → ∀ i, (x_ra b (2 ^ n - 1) k 0).testBit i = (decide (i < k) && B.testBit i)
  | 0, _, i => by
    show (0 : Nat).testBit i = _
    rw [Nat.zero_testBit, decide_eq_false (Nat.not_lt_zero i)]; rfl
  | k + 1, hk, i => by
    have ih := x_raB h hB hq k (by omega)
    have hn := h.1
    have hPk : (x_ra b (2 ^ n - 1) k 0).testBit k = false := by rw [ih, decide_eq_false (Nat.lt_irrefl k)]; rfl
    have hPl : ∀ i, (x_ra b (2 ^ n - 1) k 0).testBit i = true → i < k ∧ B.testBit i = true := fun i w => by
      rw [ih] at w
      exact ⟨of_decide_eq_true (Bool.and_eq_true_iff.1 w).1, (Bool.and_eq_true_iff.1 w).2⟩
    have hset : (2 ^ n - 1).testBit k = true := by rw [Nat.testBit_two_pow_sub_one]; exact decide_eq_true (by omega)
    generalize hP : x_ra b (2 ^ n - 1) k 0 = P at *
    have hr0 : x_rk b P = x_n P := x_indr h hB (fun i _ w => (hPl i w).2)
    have hun : x_ra b (2 ^ n - 1) (k + 1) 0 = if (2 ^ n - 1).testBit k = true ∧ P.testBit k = false ∧ x_rk b P < x_rk b (x_t P k) then x_t P k else P := by
      rw [← hP]; rfl
    have hn1 := x_nt0 (S := P) (show k < 12 by omega) hPk
    rw [hun]
    cases hBk : B.testBit k with
    | true =>
      have hr1 : x_rk b (x_t P k) = x_n (x_t P k) := x_indr h hB (fun i _ w => by
        by_cases q : i = k
        · rw [q]; exact hBk
        · rw [x_tbn q] at w; exact (hPl i w).2)
      rw [if_pos ⟨hset, hPk, by omega⟩]
      by_cases q : i = k
      · rw [q, x_tbs, hPk, hBk, decide_eq_true (Nat.lt_succ_self k)]; rfl
      · rw [x_tbn q, ih]
        by_cases w : i < k
        · rw [decide_eq_true w, decide_eq_true (show i < k + 1 by omega)]
        · rw [decide_eq_false w, decide_eq_false (show ¬ i < k + 1 by omega)]
    | false =>
      have hno : ¬ x_rk b P < x_rk b (x_t P k) := fun w => by
        have hr1 : x_rk b (x_t P k) = x_n (x_t P k) := by
          have := x_rkn (b := b) (x_t P k)
          omega
        obtain ⟨B1, c1, c2⟩ := x_ind h hr1
        obtain ⟨B3, d1, d2, d3⟩ := x_tow h (Z := x_t B k) hB _ B1 rfl c1
        have hB12 := x_M12 h hB
        have hB312 := x_M12 h d1
        have z1 : x_n (x_t B k &&& B) = r := by
          rw [x_nant (show k < 12 by omega) hBk, hBk, if_neg Bool.noConfusion, Nat.and_self]
          exact (h.2.2.1 B hB).2
        have s3 := (h.2.2.1 B3 d1).2
        have hsub : ∀ i, i < 12 → B3.testBit i = true → (x_t B k).testBit i = true := fun i hi w => by
          have e := x_cneq (f := fun i => (x_t B k).testBit i && B3.testBit i) (g := fun i => B3.testBit i) 12 (fun i _ w => (Bool.and_eq_true_iff.1 w).2) (by
            have a1 : x_cn 12 (fun i => (x_t B k).testBit i && B3.testBit i) = x_n (x_t B k &&& B3) := (x_nand _ _).symm
            have a2 : x_cn 12 (fun i => B3.testBit i) = x_n B3 := rfl
            have a3 := x_nandb (S := x_t B k) (B := B3)
            omega) i hi
          have e2 : ((x_t B k).testBit i && B3.testBit i) = B3.testBit i := e
          rw [w, Bool.and_true] at e2
          exact e2
        have hPs : ∀ i, i < 12 → (x_t P k).testBit i = true → B3.testBit i = true := fun i hi w => by
          have a4 := d3 (x_t P k) (fun i _ w => by
            by_cases q : i = k
            · rw [q, x_tbs, hBk]; rfl
            · rw [x_tbn q] at w ⊢; exact (hPl i w).2)
          have a5 : x_n (x_t P k &&& B1) = x_n (x_t P k) := by
            rw [x_nand]
            exact x_cnc 12 (fun i hi => by
              cases v : (x_t P k).testBit i
              · rfl
              · rw [c2 i hi v]; rfl)
          have a6 := x_nandr (S := x_t P k) (B := B3)
          have e := x_cneq (f := fun i => (x_t P k).testBit i && B3.testBit i) (g := fun i => (x_t P k).testBit i) 12 (fun i _ w => (Bool.and_eq_true_iff.1 w).1) (by
            have a1 : x_cn 12 (fun i => (x_t P k).testBit i && B3.testBit i) = x_n (x_t P k &&& B3) := (x_nand _ _).symm
            have a2 : x_cn 12 (fun i => (x_t P k).testBit i) = x_n (x_t P k) := rfl
            omega) i hi
          have e2 : ((x_t P k).testBit i && B3.testBit i) = (x_t P k).testBit i := e
          rw [w, Bool.true_and] at e2
          exact e2
        have hk3 : B3.testBit k = true := hPs k (by omega) (by rw [x_tbs, hPk]; rfl)
        obtain ⟨q, q1, q2, q3, q4⟩ := h.2.2.2 B3 B k d1 hB (by omega) hk3 hBk
        have hqk : q ≠ k := fun z => by rw [z, hBk] at q2; exact Bool.noConfusion q2
        have hkq : k < q := by
          rcases Nat.lt_trichotomy k q with z | z | z
          · exact z
          · exact absurd z.symm hqk
          · have : B3.testBit q = true := hPs q q1 (by rw [x_tbn hqk, ih q, decide_eq_true z, q2]; rfl)
            rw [q3] at this; exact Bool.noConfusion this
        have hX : x_t (x_t B3 k) q = B := by
          refine x_ext (x_M12 h q4) hB12 (fun i hi => ?_)
          refine x_cneq (f := fun i => (x_t (x_t B3 k) q).testBit i) (g := fun i => B.testBit i) 12 (fun i hi w => ?_) ?_ i hi
          · have w : (x_t (x_t B3 k) q).testBit i = true := w
            show B.testBit i = true
            by_cases z : i = q
            · rw [z]; exact q2
            · rw [x_tbn z] at w
              by_cases z2 : i = k
              · rw [z2, x_tbs, hk3] at w; exact Bool.noConfusion w
              · rw [x_tbn z2] at w
                have := hsub i hi w
                rw [x_tbn z2] at this; exact this
          · have a1 := (h.2.2.1 _ q4).2
            have a2 := (h.2.2.1 B hB).2
            unfold x_n at a1 a2
            omega
        have hB3 : x_t (x_t B q) k = B3 := by rw [← hX, x_tt, x_tt]
        have := hq k q (by omega) q1 hBk q2 hkq
        rw [hB3, d1] at this
        exact Bool.noConfusion this
      rw [if_neg (fun w => hno w.2.2), ih]
      by_cases q : i = k
      · rw [q, hBk, Bool.and_false, Bool.and_false]
      · by_cases w : i < k
        · rw [decide_eq_true w, decide_eq_true (show i < k + 1 by omega)]
        · rw [decide_eq_false w, decide_eq_false (show ¬ i < k + 1 by omega)]
theorem x_faP {piv : Nat → Nat} {F : Nat → List Nat} {n r B : Nat} (hB : ∀ e, B.testBit e = true ↔ ∃ i, i < r ∧ piv i = e) (hup : ∀ i i', i < i' → i' < r → piv i < piv i') (hn : ∀ i, i < r → piv i < n) : ∀ (u q i0 : Nat), q + u = n → i0 ≤ r → (∀ i, i < i0 → piv i < q) → (∀ i, i0 ≤ i → i < r → q ≤ piv i) → x_fa (fun i => F (piv i)) (r - i0) i0 = x_fa (fun q => if B.testBit q = true then F q else []) u q
  | 0, q, i0, hq, hi, h1, h2 => by
    have : r - i0 = 0 := by
      refine Classical.byContradiction (fun w => ?_)
      have := h2 i0 (Nat.le_refl _) (by omega)
      have := hn i0 (by omega)
      omega
    rw [this]; rfl
  | u + 1, q, i0, hq, hi, h1, h2 => by
    show _ = (if B.testBit q = true then F q else []) ++ x_fa (fun q => if B.testBit q = true then F q else []) u (q + 1)
    by_cases w : B.testBit q = true
    · obtain ⟨i, a1, a2⟩ := (hB q).1 w
      have a3 : i0 ≤ i := Classical.byContradiction (fun z => by have := h1 i (by omega); omega)
      have a4 : i = i0 := by
        rcases Nat.lt_or_eq_of_le a3 with z | z
        · have := hup i0 i z a1
          have := h2 i0 (Nat.le_refl _) (by omega)
          omega
        · exact z.symm
      subst a4
      rw [if_pos w, show r - i = (r - (i + 1)) + 1 by omega]
      show F (piv i) ++ x_fa (fun i => F (piv i)) (r - (i + 1)) (i + 1) = _
      rw [a2, x_faP hB hup hn u (q + 1) (i + 1) (by omega) (by omega) (fun i' z => ?_) (fun i' z1 z2 => ?_)]
      · by_cases y : i' = i
        · rw [y, a2]; omega
        · have := h1 i' (by omega); omega
      · have := hup i i' (by omega) z2; omega
    · rw [if_neg w, x_faP hB hup hn u (q + 1) i0 (by omega) hi (fun i' z => by have := h1 i' z; omega) (fun i' z1 z2 => ?_)]
      · rfl
      · have := h2 i' z1 z2
        have : piv i' ≠ q := fun y => w ((hB q).2 ⟨i', z2, y⟩)
        omega
/-- what the reference shows, by the ghost form -/
theorem x_shwG {p n r : Nat} {piv : Nat → Nat} {K : Nat → Nat → Int} {g : Nat → Int} (hp : x_pm p) (hK : x_KK p n r piv K) (h : x_pp p r K g) (hM : x_M n r (x_bg p g)) : x_fa (x_shr p n piv K) r 0 = x_shT p n g ∧ x_ra (x_bg p g) (2 ^ n - 1) n 0 = x_ps piv r := by
  obtain ⟨k1, k2, k3, k4, k5, k6, k7, k8, k9⟩ := id hK
  have hb := x_psb (piv := piv) r (x_KKne hK)
  have hB : x_bg p g (x_ps piv r) = true := by
    unfold x_bg
    rw [decide_eq_false (x_psg hp hK h)]; rfl
  have hBn := (hM.2.2.1 _ hB).1
  have hra : x_ra (x_bg p g) (2 ^ n - 1) n 0 = x_ps piv r := by
    have hx := x_raB hM hB (fun e q he hq b1 b2 hlt => ?_) n (Nat.le_refl n)
    · refine Nat.eq_of_testBit_eq (fun i => ?_)
      rw [hx i]
      by_cases w : i < n
      · rw [decide_eq_true w, Bool.true_and]
      · have : (x_ps piv r).testBit i = false := Nat.testBit_lt_two_pow (Nat.lt_of_lt_of_le hBn (Nat.pow_le_pow_right (by decide) (by omega)))
        rw [this, Bool.and_false]
    · obtain ⟨i, a1, a2⟩ := (hb q).1 b2
      have e0 : K i e = 0 := k6 i a1 e (by omega)
      have := x_Kg hp hK h a1 (show e < n by omega)
      rw [e0, Int.zero_mul] at this
      have z0 : x_md p 0 = 0 := by unfold x_md; split <;> simp
      rw [z0, x_mdm hp] at this
      have := this.resolve_right (x_KKz hp hK a1)
      rw [a2] at this
      unfold x_u at this
      rw [if_neg (by rw [x_tbn (by omega), b1]; exact Bool.noConfusion), x_mds hp] at this
      unfold x_bg
      rw [decide_eq_true this]; rfl
  refine ⟨?_, hra⟩
  unfold x_shT
  rw [hra, ← x_faP (piv := piv) (F := x_shG p n g (x_ps piv r)) (r := r) hb k5 (fun i hi => (k3 i hi).1) n 0 0 (by omega) (Nat.zero_le r) (fun i hi => absurd hi (Nat.not_lt_zero i)) (fun i _ _ => Nat.zero_le _)]
  exact x_faC r 0 (fun i _ hi => x_shrG hp hK h (by omega))
