/-! PURE: contraction of the reference's rows -/
/-- columns put in another order: the s columns of S first -/
def x_prm (n n' s S : Nat) (k κ σ : Nat → Nat) : Prop := n ≤ 12 ∧ S < 2 ^ n ∧ s + n' = n ∧ (∀ e, e < n → σ e < n ∧ κ (σ e) = e) ∧ (∀ j, j < n → κ j < n ∧ σ (κ j) = j) ∧ (∀ j, j < n → (j < s ↔ S.testBit (κ j) = true)) ∧ x_kp (x_co n S) n' k ∧ (∀ j, j < n' → k j = κ (s + j))
def x_conA (n' s f : Nat) (K : Nat → Nat → Int) (i j : Nat) : Int := if j < n' then K (f + i) (s + j) else 0
section RCN
variable {p n n' s S U r r1 f : Nat} {k κ σ : Nat → Nat} {g : Nat → Int} {K K1 : Nat → Nat → Int} {piv piv1 : Nat → Nat}
theorem x_unK {F : Type} [Lean.Grind.CommRing F] {φ : Int → F} (hm : x_hm p F φ) (hP : x_prm n n' s S k κ σ) (hz : ∀ i, i < r → x_z0 n (K i)) (hR : x_RS φ p n r r1 piv1 (x_delA n κ K) K1) : ∀ Q : (Nat → F) → Prop, x_cl Q → ((∀ i, i < r1 → Q (fun e => if e < n then φ (K1 i (σ e)) else 0)) ↔ ∀ i, i < r → Q (x_ro φ (K i))) := fun Q hQ => by
  obtain ⟨h1, h2, h3, h4, h5, h6, h7, h8⟩ := hP
  have hs := hR.2.2.2.2.2.2.2.2.2 _ (x_clres hQ (n' := n) (k := σ) (fun j hj => by have := (h4 j hj).1; omega))
  have m4 := hm.2.2.2.1
  have e : ∀ i, i < r → ∀ e, e < 12 → (fun j => if j < n then x_ro φ (x_delA n κ K i) (σ j) else 0) e = x_ro φ (K i) e := fun i hi e he => by
    show (if e < n then φ (x_delA n κ K i (σ e)) else 0) = φ (K i e)
    by_cases q : e < n
    · rw [if_pos q]
      unfold x_delA
      rw [if_pos (h4 e q).1, (h4 e q).2]
    · rw [if_neg q, hz i hi e (by omega), m4]
  constructor
  · intro w i hi
    exact hQ.2.2.1 _ _ (e i hi) (hs.1 w i hi)
  · intro w
    exact hs.2 (fun i hi => hQ.2.2.1 _ _ (fun e' he' => (e i hi e' he').symm) (w i hi))
theorem x_conO {F : Type} [Lean.Grind.CommRing F] {φ : Int → F} (hm : x_hm p F φ) (hP : x_prm n n' s S k κ σ) (hz : ∀ i, i < r → x_z0 n (K i)) (hpp : x_pp p r K g) (hR : x_RS φ p n r r1 piv1 (x_delA n κ K) K1) (hf : f ≤ r1) (hf1 : ∀ i, i < f → piv1 i < s) (hf2 : ∀ i, f ≤ i → i < r1 → s ≤ piv1 i) (hUS : ∀ e, U.testBit e = true → S.testBit e = true) (hC : ∀ T c, ¬ x_md p (g T) = 0 → (∀ e, U.testBit e = true → T.testBit e = true) → S.testBit c = true → c < 12 → T.testBit c = true → U.testBit c = true) : x_of1 φ (r1 - f) (x_conA n' s f K1) (x_fr n' k U g) := by
  have hun := x_unK hm hP hz hR
  obtain ⟨h1, h2, h3, h4, h5, h6, h7, h8⟩ := hP
  obtain ⟨s1, s2, s3, s4, s5, s6, s7, s8, s9, s10⟩ := hR
  have hd := hm.1
  have m4 := hm.2.2.2.1
  have m6 := hm.2.2.2.2.2.1
  obtain ⟨E2, E3⟩ := x_spnE hm hpp
  have hcl := x_spnc φ (r1 - f) (x_conA n' s f K1)
  have hkS : ∀ j, j < n' → S.testBit (k j) = false := fun j hj => ((x_cobS h2).1 (h7.2.1 j hj)).2
  have hmd : ∀ i, i < r1 → ¬ φ (K1 i (piv1 i)) = 0 := fun i hi => by
    by_cases p0 : p = 0
    · intro q
      rw [m6, p0, x_md0] at q
      have := (s3 i hi).2; omega
    · rw [(s9 p0 i hi).2, hm.2.2.2.2.1]; exact hd.2
  have H1 : ∀ v, x_spn φ r K v → (∀ c, c < 12 → S.testBit c = true → v c = 0) → x_spn φ (r1 - f) (x_conA n' s f K1) (fun j => if j < n' then v (k j) else 0) := fun v hv hv0 => by
    have hw : ∀ Q : (Nat → F) → Prop, x_cl Q → (∀ i, i < r1 → Q (x_ro φ (K1 i))) → Q (fun j => if j < n then v (κ j) else 0) := fun Q hQ hr => by
      refine hv _ (x_clres hQ (n' := n) (k := κ) (fun j hj => by have := (h5 j hj).1; omega)) (fun i hi => ?_)
      refine hQ.2.2.1 _ _ (fun e _ => ?_) ((s10 Q hQ).1 hr i hi)
      show φ (x_delA n κ K i e) = if e < n then φ (K i (κ e)) else 0
      unfold x_delA
      split
      · rfl
      · exact m4
    have hd2 := x_drop hd (K := fun i => x_ro φ (K1 i)) (piv := piv1) (r := r1) (fun i hi => ⟨by have := (s3 i hi).1; omega, hmd i hi⟩) (fun i i' q1 q2 q3 => by show φ (K1 i' (piv1 i)) = 0; rw [s4 i i' q1 q2 q3, m4]) hw f hf (fun i hi => by
      have hpi := (s3 i (by omega)).1
      show (if piv1 i < n then v (κ (piv1 i)) else 0) = 0
      rw [if_pos hpi]
      exact hv0 _ (by have := (h5 _ hpi).1; omega) ((h6 _ hpi).1 (hf1 i hi))) _ (x_clres hcl (n' := n') (k := fun j => s + j) (fun j hj => by omega)) (fun i q1 q2 => by
      refine hcl.2.2.1 _ _ (fun e _ => ?_) (x_spnr (φ := φ) (K := x_conA n' s f K1) (show i - f < r1 - f by omega))
      show φ (x_conA n' s f K1 (i - f) e) = if e < n' then φ (K1 i (s + e)) else 0
      unfold x_conA
      rw [show f + (i - f) = i by omega]
      split
      · rfl
      · exact m4)
    refine hcl.2.2.1 _ _ (fun e _ => ?_) hd2
    show (if e < n' then (if s + e < n then v (κ (s + e)) else 0) else 0) = if e < n' then v (k e) else 0
    by_cases q : e < n'
    · rw [if_pos q, if_pos q, if_pos (by omega), h8 e q]
    · rw [if_neg q, if_neg q]
  have H2 : ∀ v', x_spn φ (r1 - f) (x_conA n' s f K1) v' → (∃ c v, ¬ c = 0 ∧ x_spn φ r K v ∧ (∀ e, e < 12 → S.testBit e = true → v e = 0) ∧ (∀ j, j < n' → c * v' j = v (k j))) ∧ (∀ e, e < 12 → n' ≤ e → v' e = 0) := fun v' hv =>
    hv _ (x_cland (x_clex hd (x_spnc φ r K) (fun e => S.testBit e = true) (k := k) (by omega)) (x_clz hd (fun e => n' ≤ e))) (fun i hi => by
      refine ⟨⟨1, fun e => if e < n then φ (K1 (f + i) (σ e)) else 0, hd.2, (hun _ (x_spnc φ r K)).2 (fun i hi => x_spnr hi) (f + i) (by omega), fun e q1 q2 => ?_, fun j hj => ?_⟩, fun e q1 q2 => ?_⟩
      · show (if e < n then φ (K1 (f + i) (σ e)) else 0) = 0
        by_cases q : e < n
        · rw [if_pos q]
          have a1 : σ e < s := (h6 (σ e) (h4 e q).1).2 (by rw [(h4 e q).2]; exact q2)
          have a2 := hf2 (f + i) (by omega) (by omega)
          rw [s6 (f + i) (by omega) (σ e) (by omega), m4]
        · rw [if_neg q]
      · show 1 * φ (x_conA n' s f K1 i j) = if k j < n then φ (K1 (f + i) (σ (k j))) else 0
        have a1 := h5 (s + j) (by omega)
        unfold x_conA
        rw [if_pos hj, h8 j hj, if_pos a1.1, a1.2]; grind
      · show φ (x_conA n' s f K1 i e) = 0
        unfold x_conA
        rw [if_neg (by omega)]; exact m4)
  obtain ⟨q1, q2⟩ := x_frC hd (P := x_spn φ r K) (P' := x_spn φ (r1 - f) (x_conA n' s f K1)) (f := fun S => φ (g S)) (n := n') (U := U) (k := k) (C := fun e => S.testBit e = true) (by omega) h7.1 hcl E2 E3 (fun j hj => Bool.eq_false_iff.2 (fun w => by
    have := hkS j hj
    rw [hUS _ w] at this; exact Bool.noConfusion this)) hUS (fun j hj w => by rw [hkS j hj] at w; exact Bool.noConfusion w) (fun T c hT hUT hc hc12 hTc => hC T c (fun q => hT ((m6 _).2 q)) hUT hc hc12 hTc) H1 H2
  rw [← x_frp hm] at q1 q2
  exact ⟨_, hcl, fun i hi => x_spnr hi, fun v hv => hv, q1, q2⟩
/-- over Q: the numbers of the rows in the other order -/
theorem x_conB (hP : x_prm n n' s S k κ σ) (hg : x_gh 0 n r g) (hK : x_KK 0 n r piv K) (hpp : x_pp 0 r K g) (hR : x_RS (fun z : Int => z) 0 n r r1 piv1 (x_delA n κ K) K1) : ∀ i, i < r1 → ∀ j, j < n → (K1 i j).natAbs ≤ 2 ^ 142 := by
  have hun := x_unK x_hm0 hP hK.2.2.2.2.2.2.1 hR
  obtain ⟨h1, h2, h3, h4, h5, h6, h7, h8⟩ := hP
  obtain ⟨s1, s2, s3, s4, s5, s6, s7, s8, s9, s10⟩ := hR
  obtain ⟨E2, E3⟩ := x_spnE x_hm0 hpp
  have hof : x_of1 (fun z : Int => z) r1 (fun i e => if e < n then K1 i (σ e) else 0) g := ⟨x_spn (fun z : Int => z) r K, x_spnc _ r K, (hun _ (x_spnc _ r K)).2 (fun i hi => x_spnr hi), fun v hv Q hQ hr => hv Q hQ ((hun Q hQ).1 hr), E2, E3⟩
  have ev : ∀ i j, j < n → (fun e => if e < n then K1 i (σ e) else 0) (κ j) = K1 i j := fun i j hj => by
    show (if κ j < n then K1 i (σ (κ j)) else 0) = K1 i j
    rw [if_pos (h5 j hj).1, (h5 j hj).2]
  have hdl := x_dlA (z := fun i => κ (piv1 i)) (A := fun i e => if e < n then K1 i (σ e) else 0) (R := r1) (n := n) (fun i i' q1 q2 w => by
      have e1 := (h5 _ (s3 i (by omega)).1).2
      have e2 := (h5 _ (s3 i' q2).1).2
      have w : κ (piv1 i) = κ (piv1 i') := w
      rw [w, e2] at e1
      have := s5 i i' q1 q2; omega) (fun i hi => ⟨by have := (h5 _ (s3 i hi).1).1; show κ (piv1 i) < 12; omega, by
      show ¬ (fun e => if e < n then K1 i (σ e) else 0) (κ (piv1 i)) = 0
      rw [ev i _ (s3 i hi).1]
      have := (s3 i hi).2; omega⟩) (fun i i' q1 q2 q3 => by
      show (fun e => if e < n then K1 i' (σ e) else 0) (κ (piv1 i)) = 0
      rw [ev i' _ (s3 i q1).1]; exact s4 i i' q1 q2 q3) hg hof
  obtain ⟨w, z, Z, d1, d2, d3, d4, d5, d6, d7⟩ := hdl
  have hdl2 : x_dl n r1 g κ K1 := ⟨w, z, Z, d1, d2, d3, d4, d5, d6, fun i hi => by
    obtain ⟨a, b, ha, hb, he⟩ := d7 i hi
    refine ⟨a, b, ha, hb, fun j hj => ?_⟩
    have h9 := he (κ j) (h5 j hj).1
    have e2 := ev i j hj
    show a * K1 i j = b * w i (κ j)
    rw [← e2]
    exact h9⟩
  exact fun i hi => x_dlB h1 (hg.2.2.2 rfl) (fun j hj => (h5 j hj).1) hdl2 hi (Or.inl (s8 rfl i hi))
theorem x_conL {r0 : Nat} (hP : x_prm n n' s S k κ σ) (hg : x_gh 0 n r g) (hg' : x_gh 0 n' r0 (x_fr n' k U g)) (hK : x_KK 0 n r piv K) (hpp : x_pp 0 r K g) (hR : x_RS (fun z : Int => z) 0 n r r1 piv1 (x_delA n κ K) K1) (hf : f ≤ r1) (hf1 : ∀ i, i < f → piv1 i < s) (hf2 : ∀ i, f ≤ i → i < r1 → s ≤ piv1 i) (hUS : ∀ e, U.testBit e = true → S.testBit e = true) (hC : ∀ T c, ¬ x_md 0 (g T) = 0 → (∀ e, U.testBit e = true → T.testBit e = true) → S.testBit c = true → c < 12 → T.testBit c = true → U.testBit c = true) : x_lk n' (r1 - f) (x_conA n' s f K1) := by
  have hB := x_conB hP hg hK hpp hR
  have hof := x_conO x_hm0 hP hK.2.2.2.2.2.2.1 hpp hR hf hf1 hf2 hUS hC
  obtain ⟨h1, h2, h3, h4, h5, h6, h7, h8⟩ := hP
  obtain ⟨s1, s2, s3, s4, s5, s6, s7, s8, s9, s10⟩ := hR
  refine Or.inr ⟨n', x_fr n' k U g, fun j => j, by omega, fun j hj => hj, hg'.2.2.2 rfl, fun i hi j hj => ?_, x_dlA (z := fun i => piv1 (f + i) - s) (fun i i' q1 q2 w => ?_) (fun i hi => ?_) (fun i i' q1 q2 q3 => ?_) hg' hof⟩
  · unfold x_conA
    rw [if_pos hj]
    exact Nat.le_trans (hB (f + i) (by omega) (s + j) (by omega)) x_142
  · have a1 := s5 (f + i) (f + i') (by omega) (by omega)
    have a2 := hf2 (f + i) (by omega) (by omega)
    have w : piv1 (f + i) - s = piv1 (f + i') - s := w
    omega
  · have a1 := s3 (f + i) (by omega)
    have a2 := hf2 (f + i) (by omega) (by omega)
    show piv1 (f + i) - s < 12 ∧ ¬ x_conA n' s f K1 i (piv1 (f + i) - s) = 0
    unfold x_conA
    rw [if_pos (by omega), show s + (piv1 (f + i) - s) = piv1 (f + i) by omega]
    exact ⟨by omega, by omega⟩
  · have a1 := s3 (f + i) (by omega)
    have a2 := hf2 (f + i) (by omega) (by omega)
    show x_conA n' s f K1 i' (piv1 (f + i) - s) = 0
    unfold x_conA
    rw [if_pos (by omega), show s + (piv1 (f + i) - s) = piv1 (f + i) by omega]
    exact s4 (f + i) (f + i') (by omega) (by omega) (by omega)
theorem x_conR {F : Type} [Lean.Grind.CommRing F] {φ : Int → F} {A : Nat → Nat → Int} (hp : p ≠ 0) (hR : x_RS φ p n r r1 piv1 A K1) : ∀ i, i < r1 - f → x_rg p (x_conA n' s f K1 i) := fun i hi j => by
  unfold x_conA
  split
  · exact (hR.2.2.2.2.2.2.2.2.1 hp (f + i) (by omega)).1 _
  · exact ⟨Int.le_refl 0, by omega⟩
theorem x_conZ (i : Nat) : x_z0 n' (x_conA n' s f K1 i) := fun j hj => by
  unfold x_conA
  rw [if_neg (by omega)]
end RCN
