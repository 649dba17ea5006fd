/-! PURE, the reference: minorOf -/
theorem x_Wcs {R : Type} [Lean.Grind.CommRing R] {p q : Nat → Nat → R} : ∀ (n S : Nat), (∀ i, i < n → ∀ e, e < 12 → S.testBit e = true → p i e = q i e) → x_W p n S = x_W q n S
  | 0, S, _ => rfl
  | n + 1, S, h => by
    rw [x_Ws, x_Ws]
    unfold x_w
    refine x_smc 12 (fun e he => ?_)
    by_cases w : S.testBit e = true
    · rw [if_pos w, if_pos w, h n (by omega) e he w, x_Wcs n (x_t S e) (fun i hi e' he' hb => h i (by omega) e' he' (by
        by_cases z : e' = e
        · rw [z]; exact w
        · rw [x_tbn z] at hb; exact hb))]
    · rw [if_neg w, if_neg w]
theorem x_dcs {R : Type} [Lean.Grind.CommRing R] {p q : Nat → Nat → R} {m : Nat} (h : ∀ i, i < m → ∀ e, e < m → p i e = q i e) : x_d p m = x_d q m := x_Wcs m _ (fun i hi e he hb => h i hi e (by rw [x_Tb] at hb; exact of_decide_eq_true hb))
theorem x_sgpos {P z : Int} (h : 0 < P) : x_sg (P * z) = x_sg z := by
  unfold x_sg
  rcases Int.lt_trichotomy z 0 with w | w | w
  · rw [if_pos w, if_pos (Int.mul_neg_of_pos_of_neg h w)]
  · subst w; rw [Int.mul_zero]
  · have := Int.mul_pos h w
    rw [if_neg (by omega), if_neg (by omega), if_neg (by omega), if_neg (by omega)]
section RMJ
variable {iv gs gp gm fr fc : Nat → Int32} {nv : Nat → px_NV} {n r S : Nat} {piv : Nat → Nat}
theorem r_minorQ {M : Nat → Nat → Int} {post : Int32 → (Nat → Int32) → (Nat → Int32) → (Nat → Int32) → (Nat → Int32) → (Nat → Int32) → (Nat → Int32) → (Nat → px_NV) → Prop} (hn : n ≤ 12) (hrn : r ≤ n) (hiv0 : iv 10 = nI r) (hiv1 : iv 11 = nI n) (hiv2 : iv 12 = 0) (hS : S < 2 ^ n) (hSr : x_n S = r) (hX : r_X 0 n r gs nv M) (hpv : ∀ i, i < r → piv i < n ∧ gp i = nI (piv i)) (hinj : ∀ i i', i < r → i' < r → piv i = piv i' → i = i') (hpos : ∀ i, i < r → 0 < M i (piv i)) (hz : ∀ i i', i < r → i' < r → i' ≠ i → M i' (piv i) = 0) (hb : ∀ i, i < r → ∀ j, j < n → (M i j).natAbs < 65536 ^ 9)
    (h : ∀ fr' fc' nv', (∀ d, d < 156 → nv' d = nv d) → post (x_sg (x_W M r S)) iv gs gp fr' fc' gm nv') : w57_wp post (nI S) iv gs gp fr fc gm nv := by
  refine r_minorF (M := M) (G := fun z => 0 < z) hn hrn hiv0 hiv1 hS hSr hpv hinj (by decide) (fun i hi P hP => Int.mul_pos hP (hpos i hi)) hz (fun t m ro co sg fr' fc' hF hfr hfc => ?_)
  have hm := r_Fr6 hn (fun i hi => (hpv i hi).1) hinj hF
  obtain ⟨f1, f2, f3, f4, f5, f6, f7, f8, Pi, f9, f10⟩ := hF
  unfold w57_L65 w57_L184 w57_L202
  rw [hiv0, hiv2]
  refine ⟨fun _ => ⟨fun _ => ?_, fun w => absurd (Int32.le_refl 0) w⟩, fun w => absurd (nI_le (Nat.le_refl r) (by omega)) w⟩
  refine r_detQ (A := fun a b => if b < m then M (ro a) (co b) else 0) (ro := ro) (co := co) hm (fun a q => ⟨by have := f2 a q; omega, hfr a q⟩) (fun b q => ⟨by have := (f5 b q).1; omega, hfc b q⟩) (fun a b q1 q2 => ?_) (fun a q e he => ?_) (fun nv' k' => ?_)
  · show pn_N _ (if b < m then M (ro a) (co b) else 0)
    rw [if_pos q2]; exact r_XQ hX (f2 a q1) (f5 b q2).1
  · show (if e < m then M (ro a) (co e) else 0).natAbs < _
    split
    · rename_i w; exact hb _ (f2 a q) _ (f5 e w).1
    · exact Nat.pow_pos (by decide)
  · rw [hiv2]
    refine ⟨fun _ => ?_, fun w => absurd (Int32.le_refl 0) w⟩
    have e1 : x_d (fun a b => if b < m then M (ro a) (co b) else 0) m = x_d (fun a b => M (ro a) (co b)) m := x_dcs (fun i _ e he => if_pos he)
    rw [e1, x_sgs]
    have e2 : x_W M r S = Pi * (x_s Int sg * x_d (fun a b => M (ro a) (co b)) m) := by rw [f10]; grind
    have := h fr' fc' nv' k'
    rw [e2, x_sgpos f9] at this
    exact this
theorem r_minorP {p : Nat} [NeZero p] {M : Nat → Nat → Fin p} {post : Int32 → (Nat → Int32) → (Nat → Int32) → (Nat → Int32) → (Nat → Int32) → (Nat → Int32) → (Nat → Int32) → (Nat → px_NV) → Prop} (hp1 : 1 < p) (hp : p < 256) (hex : ∀ a, 0 < a → a < p → ∃ b, b < p ∧ a * b % p = 1) (hn : n ≤ 12) (hrn : r ≤ n) (hiv0 : iv 10 = nI r) (hiv1 : iv 11 = nI n) (hiv2 : iv 12 = nI p) (hS : S < 2 ^ n) (hSr : x_n S = r) (hX : ∀ i, i < r → ∀ j, j < n → gs (12 * i + j) = nI (M i j).val) (hpv : ∀ i, i < r → piv i < n ∧ gp i = nI (piv i)) (hinj : ∀ i i', i < r → i' < r → piv i = piv i' → i = i') (hne : ∀ i, i < r → ¬ M i (piv i) = 0) (hz : ∀ i i', i < r → i' < r → i' ≠ i → M i' (piv i) = 0)
    (h : ∀ fr' fc' gm', post (if x_W M r S = 0 then 0 else 1) iv gs gp fr' fc' gm' nv) : w57_wp post (nI S) iv gs gp fr fc gm nv := by
  have hdom := x_fdom hp1 hex
  refine r_minorF (M := M) (G := fun z => ¬ z = 0) hn hrn hiv0 hiv1 hS hSr hpv hinj hdom.2 (fun i hi P hP z => by
    rcases hdom.1 _ _ z with q | q
    · exact hP q
    · exact hne i hi q) hz (fun t m ro co sg fr' fc' hF hfr hfc => ?_)
  have hm := r_Fr6 hn (fun i hi => (hpv i hi).1) hinj hF
  obtain ⟨f1, f2, f3, f4, f5, f6, f7, f8, Pi, f9, f10⟩ := hF
  unfold w57_L65 w57_L184 w57_L202
  rw [hiv0, hiv2]
  have hp0 : ¬ nI p ≤ 0 := nI_nle (by omega) (by omega)
  refine ⟨fun _ => ⟨fun w => absurd w hp0, fun _ => ?_⟩, fun w => absurd (nI_le (Nat.le_refl r) (by omega)) w⟩
  refine r_detP (A := fun a b => if b < m then M (ro a) (co b) else 0) (ro := ro) (co := co) hp1 hp hiv2 hm hex (fun a q => ⟨by have := f2 a q; omega, hfr a q⟩) (fun b q => ⟨by have := (f5 b q).1; omega, hfc b q⟩) (fun a b q1 q2 => ?_) (fun a b q => if_neg (by omega)) (fun gm' => ?_)
  · show _ = nI (if b < m then M (ro a) (co b) else 0).val
    rw [if_pos q2]; exact hX _ (f2 a q1) _ (f5 b q2).1
  · rw [hiv2]
    refine ⟨fun w => absurd w hp0, fun _ => ?_⟩
    have e1 : x_d (fun a b => if b < m then M (ro a) (co b) else 0) m = x_d (fun a b => M (ro a) (co b)) m := x_dcs (fun i _ e he => if_pos he)
    rw [e1]
    have e2 : x_W M r S = 0 ↔ x_d (fun a b => M (ro a) (co b)) m = 0 := by
      rw [f10]
      constructor
      · intro z
        rcases hdom.1 _ _ z with q | q
        · rcases hdom.1 _ _ q with q' | q'
          · have h1 := x_ss (R := Fin p) sg
            rw [q'] at h1
            exact absurd (by rw [← h1]; grind) hdom.2
          · exact absurd q' f9
        · exact q
      · intro z; rw [z]; grind
    have := h fr' fc' gm'
    by_cases q : x_d (fun a b => M (ro a) (co b)) m = 0
    · rw [if_pos (e2.2 q)] at this; rw [if_pos q]; exact this
    · rw [if_neg (fun z => q (e2.1 z))] at this; rw [if_neg q]; exact this
end RMJ
