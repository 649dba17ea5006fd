/-! PURE, the reference: reduce and become over one field; rows with columns of their own -/
/-- the space of the rows A has the form g -/
def x_of1 {F : Type} [Lean.Grind.CommRing F] (φ : Int → F) (R : Nat) (A : Nat → Nat → Int) (g : Nat → Int) : Prop := ∃ P : (Nat → F) → Prop, x_cl P ∧ (∀ i, i < R → P (x_ro φ (A i))) ∧ (∀ v, P v → ∀ Q : (Nat → F) → Prop, x_cl Q → (∀ i, i < R → Q (x_ro φ (A i))) → Q v) ∧ x_E2 P (fun S => φ (g S)) ∧ x_E3 P (fun S => φ (g S))
/-- reduce does as it should, over the field φ -/
def r_Red (p : Nat) {F : Type} [Lean.Grind.CommRing F] (φ : Int → F) : Prop := ∀ (n R : Nat) (A : Nat → Nat → Int) (iv gs gp : Nat → Int32) (nv : Nat → px_NV) (post : (Nat → Int32) → (Nat → Int32) → (Nat → Int32) → (Nat → px_NV) → Prop), iv 12 = nI p → iv 11 = nI n → iv 10 = nI R → R ≤ 13 → n ≤ 12 → r_X p n R gs nv A → (∀ i, i < R → x_z0 n (A i)) → (p = 0 → x_lk n R A) → (p ≠ 0 → ∀ i, i < R → x_rg p (A i)) → (∀ r piv K gs' gp' nv', x_RS φ p n R r piv A K → (p = 0 → x_RS (fun z : Int => z) 0 n R r piv A K) → r_X p n r gs' nv' K → (∀ i, i < r → gp' i = nI (piv i)) → post (va_up iv 10 (nI r)) gs' gp' nv') → w55_wp post iv gs gp nv
theorem r_redE {p : Nat} (hp : x_pm p) : ∃ (F : Type) (_ : Lean.Grind.CommRing F) (φ : Int → F), x_hm p F φ ∧ r_Red p φ := by
  by_cases p0 : p = 0
  · subst p0
    refine ⟨Int, inferInstance, fun z => z, x_hm0, fun n R A iv gs gp nv post hiv hiv1 hiv0 hR hn hX hz hlk hrg h => ?_⟩
    rcases hlk rfl with q | ⟨n0, f, k, q1, q2, q3, q4, q5⟩
    · exact r_redW hiv hiv1 hiv0 hR hn hX hz q (fun r piv K gs' gp' nv' a1 a2 a3 => h r piv K gs' gp' nv' (x_RSq a1) (fun _ => x_RSq a1) a2 a3)
    · exact r_redL hiv hiv1 hiv0 hR hn hX hz q1 q2 q3 q4 q5 (fun r piv K gs' gp' nv' a1 a2 a3 => h r piv K gs' gp' nv' (x_RSq a1) (fun _ => x_RSq a1) a2 a3)
  · haveI : NeZero p := ⟨p0⟩
    obtain ⟨p1, p2, p3⟩ := hp.resolve_left p0
    refine ⟨Fin p, inferInstance, x_fp p, x_hmp hp, fun n R A iv gs gp nv post hiv hiv1 hiv0 hR hn hX hz hlk hrg h => ?_⟩
    exact r_redP p1 (by omega) p3 hiv hiv1 hiv0 hR hn hX hz (hrg p0) (fun r piv K gs' gp' nv' a1 a2 a3 => h r piv K gs' gp' nv' (x_RSp a1) (fun q => absurd q p0) a2 a3)
section RBF
variable {p n R r r0 m : Nat} {A K : Nat → Nat → Int} {piv : Nat → Nat} {g : Nat → Int} {iv gs gp fr fc gm gth ge gf gr gk gq gw gR gS go gz : Nat → Int32} {nv : Nat → px_NV}
theorem r_becF {F : Type} [Lean.Grind.CommRing F] {φ : Int → F} (hmm : x_hm p F φ) (hred : r_Red p φ) {post : (Nat → Int32) → (Nat → Int32) → (Nat → Int32) → (Nat → Int32) → (Nat → Int32) → (Nat → Int32) → (Nat → Int32) → (Nat → Int32) → (Nat → Int32) → (Nat → Int32) → (Nat → Int32) → (Nat → Int32) → (Nat → Int32) → (Nat → Int32) → (Nat → Int32) → (Nat → Int32) → (Nat → Int32) → (Nat → px_NV) → Prop} (hp : x_pm p) (hm : m < 26) (hiv : iv 12 = nI p) (hiv1 : iv 11 = nI n) (hiv0 : iv 10 = nI R) (hR : R ≤ 13) (hT : r_T go gz) (hX : r_X p n R gs nv A) (hz : ∀ i, i < R → x_z0 n (A i)) (hlk : p = 0 → x_lk n R A) (hrg : p ≠ 0 → ∀ i, i < R → x_rg p (A i)) (hg : x_gh p n r0 g) (hof : x_of1 φ R A g)
    (h : ∀ gs' gp' fr' fc' gm' gk' gq' gw' gR' gS' nv', r_V nv' → r_G m p n r0 g (upd gth m 1) (upd ge m (nI n)) (upd gf m (nI p)) (upd gr m (nI r0)) gk' gq' gR' gS' → (∀ e, e < 12 → gw' (12 * m + e) = 0) → r_kf m gk gq gw gR gS gk' gq' gw' gR' gS' → post (va_up iv 10 (nI r0)) gs' gp' fr' fc' gm' (upd gth m 1) (upd ge m (nI n)) (upd gf m (nI p)) (upd gr m (nI r0)) gk' gq' gw' gR' gS' go gz nv') : w66_wp post (nI m) iv gs gp fr fc gm gth ge gf gr gk gq gw gR gS go gz nv := by
  obtain ⟨P, P1, P2, P3, P4, P5⟩ := hof
  refine r_become (p := p) (n := n) (G := fun r piv K => r = r0 ∧ x_KK p n r piv K ∧ x_pp p r K g) hp hm hiv1 hiv hT (fun r piv K q => q.2.1) (fun post' hpost => ?_) (fun r piv K gs' gp' fr' fc' gm' gk' gq' gw' gR' gS' nv' q1 q2 q3 q4 q5 => ?_)
  · refine hred n R A iv gs gp nv post' hiv hiv1 hiv0 hR hg.1 hX hz hlk hrg (fun r piv K gs' gp' nv' a1 _ a2 a3 => ?_)
    obtain ⟨e, b1, b2⟩ := x_fin hmm a1 hg P1 P2 P3 P4 P5
    exact hpost r piv K gs' gp' nv' ⟨e, b1, b2⟩ a2 a3
  · obtain ⟨e, b1, b2⟩ := q1
    subst e
    exact h gs' gp' fr' fc' gm' gk' gq' gw' gR' gS' nv' q2 ⟨hg, piv, K, q3, b2⟩ q4 q5
/-- rows with columns of their own: the numbers stay small -/
theorem x_dlA {z : Nat → Nat} (h1 : ∀ i i', i < i' → i' < R → z i ≠ z i') (h2 : ∀ i, i < R → z i < 12 ∧ ¬ A i (z i) = 0) (h3 : ∀ i i', i < R → i' < R → i' ≠ i → A i' (z i) = 0) (hg : x_gh 0 n r0 g) (hof : x_of1 (fun z : Int => z) R A g) : x_dl n R g (fun j => j) A := by
  obtain ⟨P, P1, P2, P3, P4, P5⟩ := hof
  have hps := x_psW x_domI R h1 h2 h3
  have hn12 : ∀ S, ¬ g S = 0 → S < 2 ^ 12 ∧ x_n S = r0 := fun S hS => by
    obtain ⟨w1, w2⟩ := hg.2.1 S (by rw [x_md0]; exact hS)
    exact ⟨Nat.lt_of_lt_of_le w1 (Nat.pow_le_pow_right (by decide) hg.1), w2⟩
  have hne : ∃ S, ¬ g S = 0 := by
    obtain ⟨S, hS⟩ := hg.2.2.1
    rw [x_md0] at hS
    exact ⟨S, hS⟩
  obtain ⟨e, a, b, ha, hb, he⟩ := x_link x_domI (K := A) (r := R) (r0 := r0) (g := g) P1 P2 (fun v hv => P3 v hv _ (x_Zc x_domI _) (fun i hi => x_Wrow hi)) ⟨_, hps⟩ P4 P5 hn12 hne
  have hgps : ¬ g (x_ps z R) = 0 := fun q => by
    have := he (x_ps z R)
    rw [q, Int.mul_zero] at this
    rcases Int.mul_eq_zero.1 this with y | y
    · exact ha y
    · exact hps y
  have hbits := x_psb R (piv := z) h1
  exact ⟨A, z, x_ps z R, hgps, fun i hi => ⟨(h2 i hi).1, (hbits _).2 ⟨i, hi, rfl⟩⟩, fun e _ q => (hbits e).1 q, fun i hi => (x_Zp x_domI ha hb he (A i)).1 (x_Wrow hi), fun i hi => (h2 i hi).2, fun i i' q1 q2 q3 => h3 i' i q2 q1 (fun y => q3 y.symm), fun i hi => ⟨1, 1, by decide, by decide, fun j hj => rfl⟩⟩
end RBF
theorem x_smL {n1 n2 r1 r2 : Nat} {g1 g2 : Nat → Int} {K1 K2 : Nat → Nat → Int} {piv1 piv2 : Nat → Nat} (hn : n1 + n2 ≤ 12) (h1 : x_gh 0 n1 r1 g1) (h2 : x_gh 0 n2 r2 g2) (k1 : x_KK 0 n1 r1 piv1 K1) (k2 : x_KK 0 n2 r2 piv2 K2) (p1 : x_pp 0 r1 K1 g1) (p2 : x_pp 0 r2 K2 g2) : x_lk (n1 + n2) (r1 + r2) (x_smA n1 n2 r1 K1 K2) := by
  have hg := x_smG (Or.inl rfl) hn h1 h2
  refine Or.inr ⟨n1 + n2, x_fj n1 n2 g1 g2, fun j => j, hn, fun j hj => hj, hg.2.2.2 rfl, fun i hi j hj => ?_, ?_⟩
  · unfold x_smA
    by_cases q : i < r1
    · rw [if_pos q]
      by_cases w : j < n1
      · rw [if_pos w]; exact Nat.le_trans ((k1.2.2.2.2.2.2.2.1 rfl i q).2 j w) x_142
      · rw [if_neg w]; exact Nat.zero_le _
    · rw [if_neg q]
      by_cases w : n1 ≤ j ∧ j < n1 + n2
      · rw [if_pos w]; exact Nat.le_trans ((k2.2.2.2.2.2.2.2.1 rfl (i - r1) (by omega)).2 (j - n1) (by omega)) x_142
      · rw [if_neg w]; exact Nat.zero_le _
  · have i1 := k1.2.2.1
    have i2 := k2.2.2.1
    have j1 := x_KKi k1
    have j2 := x_KKi k2
    have z1 := k1.2.2.2.1
    have z2 := k2.2.2.2.1
    refine x_dlA (z := fun i => if i < r1 then piv1 i else n1 + piv2 (i - r1)) (fun i i' q1 q2 w => ?_) (fun i hi => ?_) (fun i i' q1 q2 q3 => ?_) hg (x_smO hn h1 h2 k1 k2 p1 p2 Int (fun z => z) x_hm0)
    · have w : (if i < r1 then piv1 i else n1 + piv2 (i - r1)) = (if i' < r1 then piv1 i' else n1 + piv2 (i' - r1)) := w
      by_cases c1 : i < r1
      · rw [if_pos c1] at w
        by_cases c2 : i' < r1
        · rw [if_pos c2] at w
          have := j1 i i' c1 c2 w; omega
        · rw [if_neg c2] at w
          have := (i1 i c1).1; omega
      · rw [if_neg c1, if_neg (by omega)] at w
        have := j2 (i - r1) (i' - r1) (by omega) (by omega) (by omega); omega
    · show (if i < r1 then piv1 i else n1 + piv2 (i - r1)) < 12 ∧ ¬ x_smA n1 n2 r1 K1 K2 i (if i < r1 then piv1 i else n1 + piv2 (i - r1)) = 0
      unfold x_smA
      by_cases c1 : i < r1
      · rw [if_pos c1, if_pos c1, if_pos (i1 i c1).1]
        have := i1 i c1
        exact ⟨by omega, by omega⟩
      · have := i2 (i - r1) (by omega)
        rw [if_neg c1, if_neg c1, if_pos ⟨by omega, by omega⟩, Nat.add_sub_cancel_left]
        exact ⟨by omega, by omega⟩
    · show x_smA n1 n2 r1 K1 K2 i' (if i < r1 then piv1 i else n1 + piv2 (i - r1)) = 0
      unfold x_smA
      by_cases c1 : i < r1
      · rw [if_pos c1]
        by_cases c2 : i' < r1
        · rw [if_pos c2, if_pos (i1 i c1).1]; exact z1 i i' c1 c2 q3
        · have := (i1 i c1).1
          rw [if_neg c2, if_neg (by omega)]
      · rw [if_neg c1]
        by_cases c2 : i' < r1
        · rw [if_pos c2, if_neg (by omega)]
        · have := (i2 (i - r1) (by omega)).1
          rw [if_neg c2, if_pos ⟨by omega, by omega⟩, Nat.add_sub_cancel_left]
          exact z2 (i - r1) (i' - r1) (by omega) (by omega) (by omega)
theorem x_smR {p n1 n2 r1 r2 : Nat} {K1 K2 : Nat → Nat → Int} {piv1 piv2 : Nat → Nat} (hp : 0 < p) (k1 : x_KK p n1 r1 piv1 K1) (k2 : x_KK p n2 r2 piv2 K2) : ∀ i, i < r1 + r2 → x_rg p (x_smA n1 n2 r1 K1 K2 i) := fun i hi j => by
  unfold x_smA
  by_cases c1 : i < r1
  · rw [if_pos c1]
    split
    · exact (k1.2.2.2.2.2.2.2.2 (by omega) i c1).1 j
    · exact ⟨Int.le_refl 0, by omega⟩
  · rw [if_neg c1]
    split
    · exact (k2.2.2.2.2.2.2.2.2 (by omega) (i - r1) (by omega)).1 _
    · exact ⟨Int.le_refl 0, by omega⟩
theorem x_smZ {n1 n2 r1 : Nat} {K1 K2 : Nat → Nat → Int} (i : Nat) : x_z0 (n1 + n2) (x_smA n1 n2 r1 K1 K2 i) := fun j hj => by
  unfold x_smA
  split
  · rw [if_neg (by omega)]
  · rw [if_neg (by omega)]
