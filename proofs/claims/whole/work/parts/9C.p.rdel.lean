/-! PURE: deletion and contraction of the reference's rows -/
theorem x_ndis {A B : Nat} (h : ∀ i, i < 12 → A.testBit i = true → B.testBit i = false) : x_n (A ||| B) = x_n A + x_n B := by
  have key : ∀ m, m ≤ 12 → x_cn m (fun i => (A ||| B).testBit i) = x_cn m (fun i => A.testBit i) + x_cn m (fun i => B.testBit i) := fun m => by
    induction m with
    | zero => intro _; rfl
    | succ m ih =>
      intro hm
      have h1 := ih (by omega)
      show x_cn m (fun i => (A ||| B).testBit i) + (if (A ||| B).testBit m = true then 1 else 0) = x_cn m (fun i => A.testBit i) + (if A.testBit m = true then 1 else 0) + (x_cn m (fun i => B.testBit i) + (if B.testBit m = true then 1 else 0))
      rw [h1, Nat.testBit_or]
      cases hA : A.testBit m
      · cases hB : B.testBit m
        · show _ + 0 = _ + 0 + (_ + 0); omega
        · show _ + 1 = _ + 0 + (_ + 1); omega
      · rw [h m (by omega) hA]
        show _ + 1 = _ + 1 + (_ + 0); omega
  exact key 12 (Nat.le_refl 12)
theorem x_mkS (f : Nat → Bool) : ∀ m, ∃ S, S < 2 ^ m ∧ ∀ j, j < m → S.testBit j = f j
  | 0 => ⟨0, by decide, fun j hj => absurd hj (Nat.not_lt_zero j)⟩
  | m + 1 => by
    obtain ⟨S, h1, h2⟩ := x_mkS f m
    have hm : S.testBit m = false := x_hi h1 (Nat.le_refl m)
    have h3 : S < 2 ^ (m + 1) := by rw [Nat.pow_succ]; omega
    by_cases q : f m = true
    · refine ⟨x_t S m, x_tl h3 (by omega), fun j hj => ?_⟩
      by_cases w : j = m
      · rw [w, x_tbs, hm, q]; rfl
      · rw [x_tbn w]; exact h2 j (by omega)
    · refine ⟨S, h3, fun j hj => ?_⟩
      by_cases w : j = m
      · rw [w, hm, Bool.eq_false_iff.2 q]
      · exact h2 j (by omega)
/-- a form of the elements kept: of the rank that U leaves -/
theorem x_frG {p n n' r S U : Nat} {k : Nat → Nat} {g : Nat → Int} (hp : x_pm p) (hg : x_gh p n r g) (hS : S < 2 ^ n) (hU : U < 2 ^ n) (hUS : ∀ e, U.testBit e = true → S.testBit e = true) (hk : x_kp (x_co n S) n' k) (hn' : n' ≤ 12) (hex : ∃ T, (¬ x_md p (g T) = 0) ∧ (∀ e, U.testBit e = true → T.testBit e = true) ∧ ∀ e, T.testBit e = true → U.testBit e = true ∨ S.testBit e = false) : x_gh p n' (r - x_n U) (x_fr n' k U g) := by
  have hkU : ∀ j, j < n' → k j < n ∧ S.testBit (k j) = false ∧ U.testBit (k j) = false := fun j hj => by
    have h1 := (x_cobS hS).1 (hk.2.1 j hj)
    exact ⟨h1.1, h1.2, Bool.eq_false_iff.2 (fun q => by rw [hUS _ q] at h1; exact Bool.noConfusion h1.2)⟩
  refine ⟨hn', fun T hT => ?_, ?_, fun p0 => ?_⟩
  · unfold x_fr at hT
    by_cases q : T < 2 ^ n'
    · rw [if_pos q, x_mds hp] at hT
      refine ⟨q, ?_⟩
      have h1 := (hg.2.1 _ hT).2
      rw [x_ndis (fun i _ hb => Bool.eq_false_iff.2 (fun w => by
        have h2 := (x_cobS hS).1 (x_sdK hk hb)
        rw [hUS _ w] at h2; exact Bool.noConfusion h2.2)), x_sdcn hn' hk.1 q] at h1
      omega
    · rw [if_neg q] at hT; exact absurd (x_md00 hp) hT
  · obtain ⟨T, h1, h2, h3⟩ := hex
    obtain ⟨V, v1, v2⟩ := x_mkS (fun j => T.testBit (k j)) n'
    have hTn := (hg.2.1 _ h1).1
    have hT12 : T < 2 ^ 12 := Nat.lt_of_lt_of_le hTn (Nat.pow_le_pow_right (by decide) hg.1)
    have hU12 : U < 2 ^ 12 := Nat.lt_of_lt_of_le hU (Nat.pow_le_pow_right (by decide) hg.1)
    have e : x_sd n' k V ||| U = T := by
      refine x_ext (Nat.or_lt_two_pow (x_sdl n' hk.1) hU12) hT12 (fun e he => ?_)
      rw [Nat.testBit_or]
      by_cases q : ∃ j, j < n' ∧ k j = e
      · obtain ⟨j, q1, q2⟩ := q
        rw [← q2, x_sdb n' hk.1 j q1, (hkU j q1).2.2, Bool.or_false]
        exact v2 j q1
      · rw [x_sdo n' (fun j hj w => q ⟨j, hj, w⟩), Bool.false_or]
        cases hb : T.testBit e
        · exact Bool.eq_false_iff.2 (fun w => by rw [h2 e w] at hb; exact Bool.noConfusion hb)
        · rcases h3 e hb with w | w
          · exact w
          · refine absurd ?_ q
            have hen : e < n := Classical.byContradiction (fun w => by rw [x_hi hTn (by omega)] at hb; exact Bool.noConfusion hb)
            have h4 := hk.2.2 e he ((x_cobS hS).2 ⟨hen, w⟩)
            exact ⟨_, h4.1, h4.2⟩
    refine ⟨V, ?_⟩
    unfold x_fr
    rw [if_pos v1, x_mds hp, e]
    exact h1
  · subst p0
    exact x_tar hn' hk.1 (fun j hj => (hkU j hj).1) (fun j hj => (hkU j hj).2.2) (hg.2.2.2 rfl)
/-- columns taken -/
def x_delA (n' : Nat) (k : Nat → Nat) (K : Nat → Nat → Int) (i j : Nat) : Int := if j < n' then K i (k j) else 0
theorem x_frp {p : Nat} {F : Type} [Lean.Grind.CommRing F] {φ : Int → F} (hm : x_hm p F φ) (n' : Nat) (k : Nat → Nat) (U : Nat) (g : Nat → Int) : (fun S => φ (x_fr n' k U g S)) = x_fr n' k U (fun S => φ (g S)) := by
  funext S
  unfold x_fr
  split
  · rw [hm.2.2.1, x_hms hm]
  · exact hm.2.2.2.1
theorem x_clres {F : Type} [Lean.Grind.CommRing F] {P : (Nat → F) → Prop} (hP : x_cl P) {n' : Nat} {k : Nat → Nat} (hk : ∀ j, j < n' → k j < 12) : x_cl (fun v => P (fun j => if j < n' then v (k j) else 0)) := by
  have h := x_clpre hP (fun j => decide (j < n')) k (fun j hj q => hk j (of_decide_eq_true q))
  simp only [decide_eq_true_eq] at h
  exact h
/-- rows that come, up to a factor, from rows of P that are 0 on C -/
theorem x_clex {F : Type} [Lean.Grind.CommRing F] (hd : x_dom F) {P : (Nat → F) → Prop} (hP : x_cl P) (C : Nat → Prop) {n' : Nat} {k : Nat → Nat} (hn : n' ≤ 12) : x_cl (fun v' : Nat → F => ∃ c v, ¬ c = 0 ∧ P v ∧ (∀ e, e < 12 → C e → v e = 0) ∧ (∀ j, j < n' → c * v' j = v (k j))) := by
  refine ⟨⟨1, fun _ => 0, hd.2, hP.1, fun _ _ _ => rfl, fun j _ => by grind⟩, fun a b u v hu hv => ?_, fun u v he hu => ?_, fun a u ha hu => ?_⟩
  · obtain ⟨c1, v1, x1, x2, x3, x4⟩ := hu
    obtain ⟨c2, v2, y1, y2, y3, y4⟩ := hv
    refine ⟨c1 * c2, fun e => (a * c2) * v1 e + (b * c1) * v2 e, fun q => ?_, hP.2.1 _ _ _ _ x2 y2, fun e q1 q2 => ?_, fun j hj => ?_⟩
    · rcases hd.1 _ _ q with w | w
      · exact x1 w
      · exact y1 w
    · show (a * c2) * v1 e + (b * c1) * v2 e = 0
      rw [x3 e q1 q2, y3 e q1 q2]; grind
    · show c1 * c2 * (a * u j + b * v j) = (a * c2) * v1 (k j) + (b * c1) * v2 (k j)
      rw [← x4 j hj, ← y4 j hj]; grind
  · obtain ⟨c1, v1, x1, x2, x3, x4⟩ := hu
    exact ⟨c1, v1, x1, x2, x3, fun j hj => by rw [← he j (by omega)]; exact x4 j hj⟩
  · obtain ⟨c1, v1, x1, x2, x3, x4⟩ := hu
    refine ⟨c1 * a, v1, fun q => ?_, x2, x3, fun j hj => ?_⟩
    · rcases hd.1 _ _ q with w | w
      · exact x1 w
      · exact ha w
    · rw [← x4 j hj]; grind
theorem x_delO {p n n' r S U : Nat} {k : Nat → Nat} {g : Nat → Int} {K : Nat → Nat → Int} (hpp : x_pp p r K g) (hS : S < 2 ^ n) (hn : n ≤ 12) (hUS : ∀ e, U.testBit e = true → S.testBit e = true) (hk : x_kp (x_co n S) n' k) (hn' : n' ≤ 12) (hD : ∀ T u, ¬ x_md p (g T) = 0 → (∀ e, e < 12 → T.testBit e = true → U.testBit e = true ∨ S.testBit e = false) → u < 12 → U.testBit u = true → T.testBit u = true) (hgn : ∀ T, ¬ x_md p (g T) = 0 → T < 2 ^ n) : x_of2 p r (x_delA n' k K) (x_fr n' k U g) := fun F _ φ hm => by
  have hd := hm.1
  have m4 := hm.2.2.2.1
  have m6 := hm.2.2.2.2.2.1
  obtain ⟨E2, E3⟩ := x_spnE hm hpp
  have hcl := x_spnc φ r (x_delA n' k K)
  have hk12 : ∀ j, j < n' → k j < 12 := hk.1.2
  have hkS : ∀ j, j < n' → S.testBit (k j) = false := fun j hj => ((x_cobS hS).1 (hk.2.1 j hj)).2
  rw [x_frp hm]
  have H1 : ∀ v, x_spn φ r K v → x_spn φ r (x_delA n' k K) (fun j => if j < n' then v (k j) else 0) := fun v hv => hv _ (x_clres hcl hk12) (fun i hi => by
    refine hcl.2.2.1 _ _ (fun e _ => ?_) (x_spnr (φ := φ) (K := x_delA n' k K) hi)
    show φ (x_delA n' k K i e) = if e < n' then φ (K i (k e)) else 0
    unfold x_delA
    split
    · rfl
    · exact m4)
  have H2 : ∀ v', x_spn φ r (x_delA n' k K) v' → (∃ c v, ¬ c = 0 ∧ x_spn φ r K v ∧ (∀ j, j < n' → c * v' j = v (k j))) ∧ (∀ e, e < 12 → n' ≤ e → v' e = 0) := fun v' hv => by
    have h := hv _ (x_cland (x_clex hd (x_spnc φ r K) (fun _ => False) (k := k) hn') (x_clz hd (fun e => n' ≤ e))) (fun i hi => by
      refine ⟨⟨1, x_ro φ (K i), hd.2, x_spnr hi, fun _ _ q => q.elim, fun j hj => ?_⟩, fun e q1 q2 => ?_⟩
      · show 1 * φ (x_delA n' k K i j) = φ (K i (k j))
        unfold x_delA
        rw [if_pos hj]; grind
      · show φ (x_delA n' k K i e) = 0
        unfold x_delA
        rw [if_neg (by omega)]; exact m4)
    obtain ⟨⟨c, v, a1, a2, a3, a4⟩, a5⟩ := h
    exact ⟨⟨c, v, a1, a2, a4⟩, a5⟩
  obtain ⟨q1, q2⟩ := x_frD hd (P := x_spn φ r K) (P' := x_spn φ r (x_delA n' k K)) (n := n') (U := U) (k := k) hn' hk.1 (x_spnc φ r K) hcl E2 E3 (fun j hj => Bool.eq_false_iff.2 (fun w => by
    have := hkS j hj
    rw [hUS _ w] at this; exact Bool.noConfusion this)) (fun T u hT hTk hu hUu => hD T u (fun q => hT ((m6 _).2 q)) (fun e he hb => by
    rcases hTk e he hb with w | ⟨j, w1, w2⟩
    · exact Or.inl w
    · exact Or.inr (by rw [← w2]; exact hkS j w1)) hu hUu) H1 H2
  exact ⟨_, hcl, fun i hi => x_spnr hi, fun v hv => hv, q1, q2⟩
theorem x_delL {n n' r : Nat} {k : Nat → Nat} {g : Nat → Int} {K : Nat → Nat → Int} {piv : Nat → Nat} (hg : x_gh 0 n r g) (hK : x_KK 0 n r piv K) (hpp : x_pp 0 r K g) (hk : ∀ j, j < n' → k j < n) : x_lk n' r (x_delA n' k K) := by
  refine Or.inr ⟨n, g, k, hg.1, hk, hg.2.2.2 rfl, fun i hi j hj => ?_, x_KKdl hK hpp hk⟩
  unfold x_delA
  rw [if_pos hj]
  exact Nat.le_trans ((hK.2.2.2.2.2.2.2.1 rfl i hi).2 _ (hk j hj)) x_142
theorem x_delR {p n n' r : Nat} {k : Nat → Nat} {K : Nat → Nat → Int} {piv : Nat → Nat} (hp : p ≠ 0) (hK : x_KK p n r piv K) : ∀ i, i < r → x_rg p (x_delA n' k K i) := fun i hi j => by
  unfold x_delA
  split
  · exact (hK.2.2.2.2.2.2.2.2 hp i hi).1 _
  · exact ⟨Int.le_refl 0, by omega⟩
theorem x_delZ {n' : Nat} {k : Nat → Nat} {K : Nat → Nat → Int} (i : Nat) : x_z0 n' (x_delA n' k K i) := fun j hj => by
  unfold x_delA
  rw [if_neg (by omega)]
/-- a row struck out of those that span -/
theorem x_clel {F : Type} [Lean.Grind.CommRing F] {Q : (Nat → F) → Prop} (hQ : x_cl Q) (a : F) {q : Nat} (hq : q < 12) (K : Nat → F) : x_cl (fun w : Nat → F => Q (fun e => a * w e - w q * K e)) := by
  refine ⟨hQ.2.2.1 _ _ (fun e _ => ?_) hQ.1, fun b c u v hu hv => hQ.2.2.1 _ _ (fun e _ => ?_) (hQ.2.1 b c _ _ hu hv), fun u v he hu => hQ.2.2.1 _ _ (fun e h => ?_) hu, fun c u hc hu => hQ.2.2.2 c _ hc (hQ.2.2.1 _ _ (fun e _ => ?_) hu)⟩
  · show 0 = a * 0 - 0 * K e
    grind
  · show b * (a * u e - u q * K e) + c * (a * v e - v q * K e) = a * (b * u e + c * v e) - (b * u q + c * v q) * K e
    grind
  · show a * u e - u q * K e = a * v e - v q * K e
    rw [he e h, he q hq]
  · show a * (c * u e) - (c * u q) * K e = c * (a * u e - u q * K e)
    grind
theorem x_drop {F : Type} [Lean.Grind.CommRing F] (hd : x_dom F) {K : Nat → Nat → F} {piv : Nat → Nat} {r : Nat} (h1 : ∀ i, i < r → piv i < 12 ∧ ¬ K i (piv i) = 0) (h2 : ∀ i i', i < r → i' < r → i' ≠ i → K i' (piv i) = 0) {w : Nat → F} (hw : ∀ Q : (Nat → F) → Prop, x_cl Q → (∀ i, i < r → Q (K i)) → Q w) : ∀ f, f ≤ r → (∀ i, i < f → w (piv i) = 0) → ∀ Q : (Nat → F) → Prop, x_cl Q → (∀ i, f ≤ i → i < r → Q (K i)) → Q w
  | 0, _, _, Q, hQ, hr => hw Q hQ (fun i hi => hr i (Nat.zero_le i) hi)
  | f + 1, hf, hz, Q, hQ, hr => by
    have hk := h1 f (by omega)
    have h := x_drop hd h1 h2 hw f (by omega) (fun i hi => hz i (by omega)) _ (x_clel hQ (K f (piv f)) hk.1 (K f)) (fun i q1 q2 => by
      by_cases q : i = f
      · subst q
        refine hQ.2.2.1 _ _ (fun e _ => ?_) hQ.1
        show 0 = K i (piv i) * K i e - K i (piv i) * K i e
        grind
      · refine hQ.2.2.1 _ _ (fun e _ => ?_) (x_clm hQ (K f (piv f)) (hr i (by omega) q2))
        show K f (piv f) * K i e = K f (piv f) * K i e - K i (piv f) * K f e
        rw [h2 f i (by omega) q2 q]; grind)
    refine hQ.2.2.2 (K f (piv f)) _ hk.2 (hQ.2.2.1 _ _ (fun e _ => ?_) h)
    show K f (piv f) * w e - w (piv f) * K f e = K f (piv f) * w e
    rw [hz f (by omega)]; grind
