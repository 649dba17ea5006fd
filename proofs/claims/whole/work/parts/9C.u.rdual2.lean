/-! PURE: the rows of the dual -/
theorem x_clall {F : Type} [Lean.Grind.CommRing F] {ι : Type} {C : ι → Prop} {P : ι → (Nat → F) → Prop} (h : ∀ i, x_cl (P i)) : x_cl (fun v => ∀ i, C i → P i v) := ⟨fun i _ => (h i).1, fun a b u v hu hv i q => (h i).2.1 a b u v (hu i q) (hv i q), fun u v he hu i q => (h i).2.2.1 u v he (hu i q), fun c u hc hu i q => (h i).2.2.2 c u hc (hu i q)⟩
theorem x_fdp {p : Nat} {F : Type} [Lean.Grind.CommRing F] {φ : Int → F} (hm : x_hm p F φ) (n : Nat) (g : Nat → Int) : (fun S => φ (x_fd n g S)) = x_fd n (fun S => φ (g S)) := by
  funext S
  unfold x_fd
  split
  · rw [hm.2.2.1, x_hms hm]
  · exact hm.2.2.2.1
theorem x_duG {p n r : Nat} {g : Nat → Int} (hp : x_pm p) (hg : x_gh p n r g) : x_gh p n (n - r) (x_fd n g) := by
  have hl : ∀ {S : Nat}, ¬ x_md p (x_fd n g S) = 0 → S < 2 ^ n ∧ ¬ x_md p (g (x_co n S)) = 0 := fun {S} h => by
    unfold x_fd at h
    by_cases q : S < 2 ^ n
    · rw [if_pos q, x_mds hp] at h; exact ⟨q, h⟩
    · rw [if_neg q] at h; exact absurd (x_md00 hp) h
  refine ⟨hg.1, fun S hS => ?_, ?_, fun p0 => ?_⟩
  · obtain ⟨a1, a2⟩ := hl hS
    have h1 := x_nco hg.1 a1
    have h2 := (hg.2.1 _ a2).2
    exact ⟨a1, by omega⟩
  · obtain ⟨S, hS⟩ := hg.2.2.1
    have h1 := (hg.2.1 _ hS).1
    refine ⟨x_co n S, ?_⟩
    unfold x_fd
    rw [if_pos (x_col h1), x_mds hp, x_coco]
    exact hS
  · exact x_tad hg.1 (hg.2.2.2 p0)
/-- what the rows of the dual have to be -/
def x_dA {F : Type} [Lean.Grind.CommRing F] (φ : Int → F) (n r n' : Nat) (piv kN : Nat → Nat) (K A : Nat → Nat → Int) (E : Int) : Prop := (¬ φ E = 0) ∧ (∀ t, t < n' → A t (kN t) = E) ∧ (∀ t t', t < n' → t' < n' → t' ≠ t → A t (kN t') = 0) ∧ (∀ t i, t < n' → i < r → φ (A t (piv i)) * φ (K i (piv i)) = - (φ E * φ (K i (kN t)))) ∧ (∀ t, t < n' → x_z0 n (A t))
section RDU
variable {p n n' r : Nat} {piv kN : Nat → Nat} {K A : Nat → Nat → Int} {g : Nat → Int} {E : Int}
theorem x_colc (hK : x_KK p n r piv K) (hk : x_kp (x_co n (x_ps piv r)) n' kN) : (∀ e, e < n → (∃ i, i < r ∧ piv i = e) ∨ ∃ t, t < n' ∧ kN t = e) ∧ (∀ t, t < n' → kN t < n ∧ ∀ i, i < r → piv i ≠ kN t) ∧ (∀ t t', t < n' → t' < n' → kN t = kN t' → t = t') := by
  obtain ⟨s2, g1, s3, s4, s5, s6, s7, s8, s9⟩ := hK
  obtain ⟨kp, hZ, hZn⟩ := x_pskp g1 s5 (fun i hi => (s3 i hi).1)
  have hbits := x_psb r (piv := piv) (fun i i' q1 q2 w => by have := s5 i i' q1 q2; omega)
  refine ⟨fun e he => ?_, fun t ht => ?_, fun t t' h1 h2 h3 => x_upi hk.1 h1 h2 h3⟩
  · cases hb : (x_ps piv r).testBit e with
    | true => exact Or.inl ((hbits e).1 hb)
    | false =>
      have := hk.2.2 e (by omega) ((x_cobS hZ).2 ⟨he, hb⟩)
      exact Or.inr ⟨_, this.1, this.2⟩
  · have h1 := (x_cobS hZ).1 (hk.2.1 t ht)
    exact ⟨h1.1, fun i hi w => by rw [(hbits _).2 ⟨i, hi, w⟩] at h1; exact Bool.noConfusion h1.2⟩
theorem x_duO {F : Type} [Lean.Grind.CommRing F] {φ : Int → F} (hm : x_hm p F φ) (hg : x_gh p n r g) (hK : x_KK p n r piv K) (hpp : x_pp p r K g) (hk : x_kp (x_co n (x_ps piv r)) n' kN) (hA : x_dA φ n r n' piv kN K A E) : x_of1 φ n' A (x_fd n g) := by
  obtain ⟨c1, c2, c3⟩ := x_colc hK hk
  obtain ⟨s2, g1, s3, s4, s5, s6, s7, s8, s9⟩ := hK
  obtain ⟨m1, m2, m3, m4, m5, m6, m7, m8⟩ := id hm
  obtain ⟨a1, a2, a3, a4, a5⟩ := hA
  obtain ⟨E2, E3⟩ := x_spnE hm hpp
  have hmd : ∀ i, i < r → ¬ φ (K i (piv i)) = 0 := fun i hi => by
    by_cases p0 : p = 0
    · intro q
      rw [m6, p0, x_md0] at q
      have := (s3 i hi).2; omega
    · rw [(s9 p0 i hi).2, m5]; exact m1.2
  have hcl : x_cl (fun v : Nat → F => (∀ u, x_spn φ r K u → x_dot u v = 0) ∧ (∀ e, e < 12 → n ≤ e → v e = 0)) := x_cland (x_clall (P := fun u v => x_dot u v = 0) (fun u => by
    have h := x_dotc m1 u
    have e : (fun v => x_dot v u = 0) = (fun v => x_dot u v = 0) := by funext v; rw [x_dots]
    rw [e] at h; exact h)) (x_clz m1 (fun e => n ≤ e))
  -- the rows are orthogonal
  have hort : ∀ t, t < n' → (∀ u, x_spn φ r K u → x_dot u (x_ro φ (A t)) = 0) ∧ (∀ e, e < 12 → n ≤ e → x_ro φ (A t) e = 0) := fun t ht => by
    refine ⟨fun u hu => hu _ (x_dotc m1 (x_ro φ (A t))) (fun i hi => ?_), fun e _ q => by show φ (A t e) = 0; rw [a5 t ht e q, m4]⟩
    show x_sm 12 (fun e => φ (K i e) * φ (A t e)) = 0
    have hkt := c2 t ht
    rw [x_sm2 (k := piv i) (l := kN t) 12 (by have := (s3 i hi).1; omega) (by omega) (hkt.2 i hi) (fun e he q1 q2 => ?_)]
    · rw [a2 t ht]
      have h4 := a4 t i ht hi
      generalize φ (A t (piv i)) = x at *
      generalize φ (K i (piv i)) = y at *
      generalize φ (K i (kN t)) = z at *
      generalize φ E = w at *
      have : y * x = x * y := by grind
      rw [this, h4]; grind
    · by_cases hen : e < n
      · rcases c1 e hen with ⟨i', w1, w2⟩ | ⟨t', w1, w2⟩
        · rw [← w2, s4 i' i w1 hi (fun y => q1 (by rw [← w2, y])), m4]; grind
        · rw [← w2, a3 t t' ht w1 (fun y => q2 (by rw [← w2, y])), m4]; grind
      · rw [s7 i hi e (by omega), m4]; grind
  -- and span
  have hspan : ∀ Q : (Nat → F) → Prop, x_cl Q → (∀ t, t < n' → Q (x_ro φ (A t))) → ∀ f, f ≤ n' → ∀ v : Nat → F, ((∀ u, x_spn φ r K u → x_dot u v = 0) ∧ (∀ e, e < 12 → n ≤ e → v e = 0)) → (∀ t, f ≤ t → t < n' → v (kN t) = 0) → Q v := fun Q hQ hr f => by
    induction f with
    | zero =>
      intro _ v hv hz
      refine hQ.2.2.1 _ _ (fun e he => ?_) hQ.1
      show 0 = v e
      by_cases hen : e < n
      · rcases c1 e hen with ⟨i, w1, w2⟩ | ⟨t, w1, w2⟩
        · have h1 := hv.1 _ (x_spnr (φ := φ) (K := K) w1)
          have h2 : x_sm 12 (fun e => φ (K i e) * v e) = φ (K i (piv i)) * v (piv i) := x_sm1 12 (by have := (s3 i w1).1; omega) (fun e' he' q => by
            by_cases hen' : e' < n
            · rcases c1 e' hen' with ⟨i', y1, y2⟩ | ⟨t', y1, y2⟩
              · rw [← y2, s4 i' i y1 w1 (fun y => q (by rw [← y2, y])), m4]; grind
              · rw [← y2, hz t' (Nat.zero_le _) y1]; grind
            · rw [s7 i w1 e' (by omega), m4]; grind)
          have h3 : φ (K i (piv i)) * v (piv i) = 0 := by rw [← h2]; exact h1
          rw [← w2]
          exact ((m1.1 _ _ h3).resolve_left (hmd i w1)).symm
        · rw [← w2]; exact (hz t (Nat.zero_le _) w1).symm
      · exact (hv.2 e he (by omega)).symm
    | succ f ih =>
      intro hf v hv hz
      have hw := ih (by omega) (fun e => φ E * v e + (- v (kN f)) * x_ro φ (A f) e) (hcl.2.1 (φ E) (- v (kN f)) v _ hv (hort f (by omega))) (fun t q1 q2 => by
        show φ E * v (kN t) + (- v (kN f)) * φ (A f (kN t)) = 0
        by_cases q : t = f
        · rw [q, a2 f (by omega)]; grind
        · rw [hz t (by omega) q2, a3 f t (by omega) q2 q, m4]; grind)
      refine hQ.2.2.2 (φ E) _ a1 (hQ.2.2.1 _ _ (fun e _ => ?_) (hQ.2.1 1 (v (kN f)) _ _ hw (hr f (by omega))))
      show 1 * (φ E * v e + (- v (kN f)) * x_ro φ (A f) e) + v (kN f) * x_ro φ (A f) e = φ E * v e
      grind
  obtain ⟨q1, q2⟩ := x_fdE m1 (P := x_spn φ r K) (P' := fun v : Nat → F => (∀ u, x_spn φ r K u → x_dot u v = 0) ∧ (∀ e, e < 12 → n ≤ e → v e = 0)) (f := fun S => φ (g S)) (n := n) g1 (x_spnc φ r K) E2 E3 (fun S hS => (hg.2.1 S (fun q => hS ((m6 _).2 q))).1) (fun v h1 h2 => ⟨h1, h2⟩) (fun v hv => hv)
  rw [← x_fdp hm] at q1 q2
  exact ⟨_, hcl, hort, fun v hv Q hQ hr => hspan Q hQ hr n' (Nat.le_refl n') v hv (fun t y1 y2 => absurd y2 (by omega)), q1, q2⟩
/-- the rows that makeDual lays -/
def x_duA (p : Nat) (E : Int) (Z : Nat) (K : Nat → Nat → Int) (kN : Nat → Nat) (t j : Nat) : Int := if j = kN t then E else if Z.testBit j = true then (if p = 0 then -(E.tdiv (K (x_cn j (fun i => Z.testBit i)) j) * K (x_cn j (fun i => Z.testBit i)) (kN t)) else (-(K (x_cn j (fun i => Z.testBit i)) (kN t))) % (p : Int)) else 0
/-- what stands for 1 -/
def x_duE (p : Nat) (piv : Nat → Nat) (K : Nat → Nat → Int) (r : Nat) : Int := if p = 0 then (x_lc piv K r : Int) else 1
theorem x_duP (hK : x_KK p n r piv K) (hk : x_kp (x_co n (x_ps piv r)) n' kN) {t i : Nat} (ht : t < n') (hi : i < r) : x_duA p E (x_ps piv r) K kN t (piv i) = if p = 0 then -(E.tdiv (K i (piv i)) * K i (kN t)) else (-(K i (kN t))) % (p : Int) := by
  obtain ⟨c1, c2, c3⟩ := x_colc hK hk
  obtain ⟨s2, g1, s3, s4, s5, s6, s7, s8, s9⟩ := hK
  obtain ⟨kp, hZ, hZn⟩ := x_pskp g1 s5 (fun i hi => (s3 i hi).1)
  unfold x_duA
  rw [if_neg ((c2 t ht).2 i hi), if_pos (kp.2.1 i hi), x_kpc kp hi]
theorem x_duF {F : Type} [Lean.Grind.CommRing F] {φ : Int → F} (hm : x_hm p F φ) (hK : x_KK p n r piv K) (hk : x_kp (x_co n (x_ps piv r)) n' kN) : x_dA φ n r n' piv kN K (x_duA p (x_duE p piv K r) (x_ps piv r) K kN) (x_duE p piv K r) := by
  obtain ⟨c1, c2, c3⟩ := x_colc hK hk
  have hP := fun {t i : Nat} (ht : t < n') (hi : i < r) => x_duP (E := x_duE p piv K r) hK hk ht hi
  obtain ⟨s2, g1, s3, s4, s5, s6, s7, s8, s9⟩ := hK
  obtain ⟨kp, hZ, hZn⟩ := x_pskp g1 s5 (fun i hi => (s3 i hi).1)
  obtain ⟨m1, m2, m3, m4, m5, m6, m7, m8⟩ := id hm
  refine ⟨?_, fun t ht => ?_, fun t t' h1 h2 h3 => ?_, fun t i ht hi => ?_, fun t ht j hj => ?_⟩
  · unfold x_duE
    by_cases p0 : p = 0
    · rw [if_pos p0, m6, p0, x_md0]
      have := x_lcp (piv := piv) (K := K) r (fun i hi => (s3 i hi).2)
      omega
    · rw [if_neg p0, m5]; exact m1.2
  · unfold x_duA
    rw [if_pos rfl]
  · unfold x_duA
    rw [if_neg (fun w => h3 (c3 t' t h2 h1 w)), if_neg (by rw [((x_cobS hZ).1 (hk.2.1 t' h2)).2]; exact Bool.noConfusion)]
  · rw [hP ht hi]
    by_cases p0 : p = 0
    · rw [if_pos p0, ← m3, ← m3, ← x_hmn hm]
      have hE : x_duE p piv K r = (x_lc piv K r : Int) := by unfold x_duE; rw [if_pos p0]
      rw [hE]
      have hd : K i (piv i) ∣ (x_lc piv K r : Int) := by
        have h1 := x_lcd (piv := piv) (K := K) r i hi
        exact Int.natAbs_dvd.1 (Int.natCast_dvd_natCast.2 h1)
      have h2 := Int.tdiv_mul_cancel hd
      generalize (x_lc piv K r : Int).tdiv (K i (piv i)) = q at *
      rw [← h2]
      congr 1
      grind
    · rw [if_neg p0, (s9 p0 i hi).2, m5]
      have hE : x_duE p piv K r = 1 := by unfold x_duE; rw [if_neg p0]
      rw [hE, m5]
      have e : φ (-(K i (kN t)) % (p : Int)) = - φ (K i (kN t)) := by
        rw [← x_hmn hm, m8]
        unfold x_md
        rw [if_neg p0, if_neg p0, Int.emod_emod]
      rw [e]; grind
  · unfold x_duA
    rw [if_neg (by have := (c2 t ht).1; omega), if_neg (by rw [x_hi hZ hj]; exact Bool.noConfusion)]
theorem x_duL (hg : x_gh 0 n r g) (hK : x_KK 0 n r piv K) (hpp : x_pp 0 r K g) (hk : x_kp (x_co n (x_ps piv r)) n' kN) : x_lk n n' (x_duA 0 (x_duE 0 piv K r) (x_ps piv r) K kN) := by
  have hA := x_duF x_hm0 hK hk
  have hof := x_duO x_hm0 hg hK hpp hk hA
  have hg' := x_duG (Or.inl rfl) hg
  have hB := x_lcB hg hK hpp
  obtain ⟨c1, c2, c3⟩ := x_colc hK hk
  have hP := fun {t i : Nat} (ht : t < n') (hi : i < r) => x_duP (E := x_duE 0 piv K r) hK hk ht hi
  have h852 : ((2 : Nat) ^ 142) ^ 6 ≤ 2 ^ 1000 := by decide +kernel
  have h994 : ((2 : Nat) ^ 142) ^ 6 * 2 ^ 142 ≤ 2 ^ 1000 := by decide +kernel
  have hE : x_duE 0 piv K r = (x_lc piv K r : Int) := by unfold x_duE; rw [if_pos rfl]
  obtain ⟨a1, a2, a3, a4, a5⟩ := hA
  refine Or.inr ⟨n, x_fd n g, fun j => j, hg.1, fun j hj => hj, hg'.2.2.2 rfl, fun t ht j hj => ?_, x_dlA (z := kN) (fun i i' q1 q2 w => by have := c3 i i' (by omega) q2 w; omega) (fun t ht => ⟨by have := (c2 t ht).1; have := hg.1; omega, ?_⟩) (fun t t' h1 h2 h3 => a3 t' t h2 h1 (fun y => h3 y.symm)) hg' hof⟩
  · rcases c1 j hj with ⟨i, w1, w2⟩ | ⟨t', w1, w2⟩
    · rw [← w2, hP ht w1, if_pos rfl, Int.natAbs_neg, Int.natAbs_mul, hE]
      have b1 : ((x_lc piv K r : Int).tdiv (K i (piv i))).natAbs ≤ (2 ^ 142) ^ 6 := by
        rw [Int.natAbs_tdiv, Int.natAbs_natCast]
        exact Nat.le_trans (Nat.div_le_self _ _) hB
      have b2 := (hK.2.2.2.2.2.2.2.1 rfl i w1).2 _ (c2 t ht).1
      exact Nat.le_trans (Nat.mul_le_mul b1 b2) h994
    · rw [← w2]
      by_cases q : t' = t
      · rw [q, a2 t ht, hE, Int.natAbs_natCast]; exact Nat.le_trans hB h852
      · rw [a3 t t' ht w1 q]; exact Nat.zero_le _
  · rw [a2 t ht]; exact a1
theorem x_duR (hp : 1 < p) : ∀ t, x_rg p (x_duA p 1 (x_ps piv r) K kN t) := fun t j => by
  unfold x_duA
  split
  · exact ⟨by decide, by omega⟩
  · split
    · rw [if_neg (by omega)]
      exact ⟨Int.emod_nonneg _ (by omega), Int.emod_lt_of_pos _ (by omega)⟩
    · exact ⟨Int.le_refl 0, by omega⟩
end RDU
