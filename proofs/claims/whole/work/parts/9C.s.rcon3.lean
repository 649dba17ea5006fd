/-! PURE, the reference: contract and delete, whole -/
/-- U may stand for the elements S that are contracted: a basis of S -/
def x_Uc (p n : Nat) (g : Nat → Int) (S U : Nat) : Prop := U < 2 ^ n ∧ (∀ e, U.testBit e = true → S.testBit e = true) ∧ (∃ T, (¬ x_md p (g T) = 0) ∧ (∀ e, U.testBit e = true → T.testBit e = true) ∧ ∀ e, T.testBit e = true → U.testBit e = true ∨ S.testBit e = false) ∧ (∀ T c, ¬ x_md p (g T) = 0 → (∀ e, U.testBit e = true → T.testBit e = true) → S.testBit c = true → c < 12 → T.testBit c = true → U.testBit c = true)
/-- U may stand for the elements S that are deleted: what a basis must have of S -/
def x_Ud (p n : Nat) (g : Nat → Int) (S U : Nat) : Prop := U < 2 ^ n ∧ (∀ e, U.testBit e = true → S.testBit e = true) ∧ (∃ T, (¬ x_md p (g T) = 0) ∧ (∀ e, U.testBit e = true → T.testBit e = true) ∧ ∀ e, T.testBit e = true → U.testBit e = true ∨ S.testBit e = false) ∧ (∀ T u, ¬ x_md p (g T) = 0 → (∀ e, e < 12 → T.testBit e = true → U.testBit e = true ∨ S.testBit e = false) → u < 12 → U.testBit u = true → T.testBit u = true)
section RCN3
variable {p n n' r S U m y : Nat} {k : Nat → Nat} {g : Nat → Int} {iv gs gp fr fc gm gth ge gf gr gk gq gw gR gS go gz : Nat → Int32} {nv : Nat → px_NV}
theorem r_contr {post : (Nat → Int32) → (Nat → Int32) → (Nat → Int32) → (Nat → Int32) → (Nat → Int32) → (Nat → Int32) → (Nat → Int32) → (Nat → Int32) → (Nat → Int32) → (Nat → Int32) → (Nat → Int32) → (Nat → Int32) → (Nat → Int32) → (Nat → Int32) → (Nat → Int32) → (Nat → Int32) → (Nat → Int32) → (Nat → px_NV) → Prop} (hm : m < 26) (hT : r_T go gz) (hV : r_V nv) (hG : r_G y p n r g gth ge gf gr gk gq gR gS) (hS : S < 2 ^ n) (hk : x_kp (x_co n S) n' k) (hn' : n' = x_n (x_co n S)) (hU : x_Uc p n g S U)
    (h : ∀ iv' gs' gp' fr' fc' gm' gk' gq' gw' gR' gS' nv', (∀ q, q ≠ 10 → q ≠ 11 → q ≠ 12 → iv' q = iv q) → r_V nv' → r_G m p n' (r - x_n U) (x_fr n' k U g) (upd gth m 1) (upd ge m (nI n')) (upd gf m (nI p)) (upd gr m (nI (r - x_n U))) gk' gq' gR' gS' → (∀ e, e < 12 → gw' (12 * m + e) = 0) → r_kf m gk gq gw gR gS gk' gq' gw' gR' gS' → post iv' gs' gp' fr' fc' gm' (upd gth m 1) (upd ge m (nI n')) (upd gf m (nI p)) (upd gr m (nI (r - x_n U))) gk' gq' gw' gR' gS' go gz nv') : w94_wp post (nI m) (nI y) (nI S) iv gs gp fr fc gm gth ge gf gr gk gq gw gR gS go gz nv := by
  obtain ⟨hg, piv, K, hL, hpp⟩ := hG
  obtain ⟨l1, l2, l3, l4, l5, l6, l7, l8, l9, l10⟩ := hL
  have hn := hg.1
  have hr : r ≤ 12 := by have := l7.1; omega
  have hp256 : p < 256 := by
    rcases l6 with q | q
    · rw [q]; decide
    · have := q.2.1; omega
  have hS12 : S < 4096 := Nat.lt_of_lt_of_le hS (Nat.pow_le_pow_right (by decide) hn)
  obtain ⟨κ, σ, hP, hκ0, hκ1⟩ := x_prmE hn hS hk hn'
  obtain ⟨F, _, φ, hmm, hred⟩ := r_redE l6
  obtain ⟨u1, u2, u3, u4⟩ := hU
  have hg' := x_frG l6 hg hS u1 u2 hk (by have := hP.2.2.1; omega) u3
  have hsn := hP.2.2.1
  refine r_arrange (wi := true) (n' := n) (κ := κ) hp256 l1 hn hr hS l3 l4 l5 hT.2 rfl hκ0 (fun _ => hκ1) l8 hV (fun iv1 gs1 nv1 i12 i11 i10 iq hX1 => ?_)
  have hX2 : r_X p n r gs1 nv1 (x_delA n κ K) := r_Xc hX1 (fun i hi j hj => by unfold x_delA; rw [if_pos hj])
  have hkn : ∀ j, j < n → κ j < n := fun j hj => (hP.2.2.2.2.1 j hj).1
  refine hred n r (x_delA n κ K) iv1 gs1 gp nv1 _ i12 i11 i10 (by omega) hn hX2 (fun i _ => x_delZ i) (fun p0 => by subst p0; exact x_delL hg l7 hpp hkn) (fun p0 => x_delR p0 l7) (fun r1 piv1 K1 gs2 gp2 nv2 hR hR0 hX3 hgp => ?_)
  have hr1 : r1 ≤ 12 := by have := hR.2.1; omega
  refine ⟨b_in (by omega) (by omega), fun z61 e61 => ⟨r1 + 1, ?_⟩⟩
  rw [nI_clamp (show S < 2 ^ 31 by omega), hT.2 S hS12] at e61
  rw [e61]
  have j10 : va_up iv1 10 (nI r1) 10 = nI r1 := va_up_self _ _ _
  have j11 : va_up iv1 10 (nI r1) 11 = nI n := by rw [va_up_ne _ _ (by decide)]; exact i11
  have j12 : va_up iv1 10 (nI r1) 12 = nI p := by rw [va_up_ne _ _ (by decide)]; exact i12
  have jq : ∀ q, q ≠ 10 → q ≠ 11 → q ≠ 12 → va_up iv1 10 (nI r1) q = iv q := fun q q1 q2 q3 => by rw [va_up_ne _ _ q1]; exact iq q q1 q2 q3
  generalize va_up iv1 10 (nI r1) = iv2 at *
  have fin : ∀ f, f ≤ r1 → (∀ i, i < f → piv1 i < x_n S) → (∀ i, f ≤ i → i < r1 → x_n S ≤ piv1 i) → w94_L49 post (nI m) (nI y) (nI S) (nI (x_n S)) (nI f) iv2 gs2 gp2 fr fc gm gth ge gf gr gk gq gw gR gS go gz nv2 := fun f hf hf1 hf2 => by
    refine r_shift (n' := n') hn hr1 hf hsn j10 j11 hX3 (fun gs3 nv3 hX4 => ?_)
    have hof := x_conO hmm hP l7.2.2.2.2.2.2.1 hpp hR hf hf1 hf2 u2 u4
    refine r_becF hmm hred (A := x_conA n' (x_n S) f K1) (R := r1 - f) (n := n') l6 hm (by rw [va_up_ne _ _ (by decide), va_up_ne _ _ (by decide)]; exact j12) (va_up_self _ _ _) (by rw [va_up_ne _ _ (by decide)]; exact va_up_self _ _ _) (by omega) hT hX4 (fun i _ => x_conZ i) (fun p0 => by subst p0; exact x_conL hP hg hg' l7 hpp (hR0 rfl) hf hf1 hf2 u2 u4) (fun p0 => x_conR p0 hR) hg' hof (fun gs' gp' fr' fc' gm' gk' gq' gw' gR' gS' nv' a1 a2 a3 a4 => h _ gs' gp' fr' fc' gm' gk' gq' gw' gR' gS' nv' (fun q q1 q2 q3 => ?_) a1 a2 a3 a4)
    rw [va_up_ne _ _ q1, va_up_ne _ _ q2, va_up_ne _ _ q1]
    exact jq q q1 q2 q3
  have find : ∀ (u f : Nat), f + u = r1 → (∀ i, i < f → piv1 i < x_n S) → w94_L22 post (u + 1) (nI m) (nI y) (nI S) (nI (x_n S)) (nI f) iv2 gs2 gp2 fr fc gm gth ge gf gr gk gq gw gR gS go gz nv2 := by
    intro u
    induction u with
    | zero =>
      intro f hf hf1
      have : f = r1 := by omega
      subst this
      exact ⟨fun _ => fin f (Nat.le_refl f) hf1 (fun i q1 q2 => absurd q2 (by omega)), fun w => absurd (by rw [j10]; exact nI_le (Nat.le_refl f) (by omega)) w⟩
    | succ u ih =>
      intro f hf hf1
      have hpn := (hR.2.2.1 f (by omega)).1
      unfold w94_L22
      rw [nI_clamp (show f < 2 ^ 31 by omega), hgp f (by omega)]
      refine ⟨fun w => absurd w (by rw [j10]; exact nI_ge (by omega) (by omega)), fun _ => ⟨b_in (by omega) (by omega), fun w => fin f (by omega) hf1 (fun i q1 q2 => ?_), fun w z e => ?_⟩⟩
      · have h1 : x_n S ≤ piv1 f := Classical.byContradiction (fun q => absurd w (nI_ge (by omega) (by omega)))
        by_cases q : i = f
        · rw [q]; exact h1
        · have := hR.2.2.2.2.1 f i (by omega) q2; omega
      · have h1 : piv1 f < x_n S := Classical.byContradiction (fun q => w (nI_le (by omega) (by omega)))
        rw [e, nI_1]
        refine ih (f + 1) (by omega) (fun i hi => ?_)
        by_cases q : i = f
        · rw [q]; exact h1
        · exact hf1 i (by omega)
  exact find r1 0 (by omega) (fun i hi => absurd hi (Nat.not_lt_zero i))
theorem r_deleted {post : (Nat → Int32) → (Nat → Int32) → (Nat → Int32) → (Nat → Int32) → (Nat → Int32) → (Nat → Int32) → (Nat → Int32) → (Nat → Int32) → (Nat → Int32) → (Nat → Int32) → (Nat → Int32) → (Nat → Int32) → (Nat → Int32) → (Nat → Int32) → (Nat → Int32) → (Nat → Int32) → (Nat → Int32) → (Nat → px_NV) → Prop} (hm : m < 26) (hT : r_T go gz) (hV : r_V nv) (hG : r_G y p n r g gth ge gf gr gk gq gR gS) (hS : S < 2 ^ n) (hk : x_kp (x_co n S) n' k) (hn' : n' = x_n (x_co n S)) (hU : x_Ud p n g S U)
    (h : ∀ iv' gs' gp' fr' fc' gm' gk' gq' gw' gR' gS' nv', (∀ q, q ≠ 10 → q ≠ 11 → q ≠ 12 → iv' q = iv q) → r_V nv' → r_G m p n' (r - x_n U) (x_fr n' k U g) (upd gth m 1) (upd ge m (nI n')) (upd gf m (nI p)) (upd gr m (nI (r - x_n U))) gk' gq' gR' gS' → (∀ e, e < 12 → gw' (12 * m + e) = 0) → r_kf m gk gq gw gR gS gk' gq' gw' gR' gS' → post iv' gs' gp' fr' fc' gm' (upd gth m 1) (upd ge m (nI n')) (upd gf m (nI p)) (upd gr m (nI (r - x_n U))) gk' gq' gw' gR' gS' go gz nv') : w93_wp (fun v57 v58 v59 v60 v61 v62 v63 v64 v65 => w66_wp post (nI m) v57 v58 gp fr fc gm gth v59 v60 v61 v62 v63 gw gR gS go v64 v65) (nI y) (nI S) 0 iv gs ge gf gr gk gq gz nv := by
  obtain ⟨hg, piv, K, hL, hpp⟩ := hG
  obtain ⟨l1, l2, l3, l4, l5, l6, l7, l8, l9, l10⟩ := hL
  have hn := hg.1
  have hr : r ≤ 12 := by have := l7.1; omega
  have hp256 : p < 256 := by
    rcases l6 with q | q
    · rw [q]; decide
    · have := q.2.1; omega
  have hsum := x_nco hn hS
  obtain ⟨u1, u2, u3, u4⟩ := hU
  have hg' := x_frG l6 hg hS u1 u2 hk (by omega) u3
  have hkn : ∀ j, j < n' → k j < n := fun j hj => ((x_cobS hS).1 (hk.2.1 j hj)).1
  refine r_arrange (wi := false) (n' := n') (κ := k) hp256 l1 hn hr hS l3 l4 l5 hT.2 (by rw [if_neg Bool.noConfusion]; omega) (fun j hj hb => ?_) (fun q => Bool.noConfusion q) l8 hV (fun iv1 gs1 nv1 i12 i11 i10 iq hX1 => ?_)
  · rw [if_neg Bool.noConfusion, Nat.zero_add]
    have h1 := hk.2.2 j (by omega) ((x_cobS hS).2 ⟨hj, hb⟩)
    rw [x_cnc j (g := fun i => !S.testBit i) (fun i hi => x_cob (by omega))] at h1
    exact h1.2
  · have hX2 : r_X p n' r gs1 nv1 (x_delA n' k K) := r_Xc hX1 (fun i hi j hj => by unfold x_delA; rw [if_pos hj])
    refine r_becG (A := x_delA n' k K) (R := r) (n := n') l6 hm i12 i11 i10 (by omega) hT hX2 (fun i _ => x_delZ i) (fun p0 => by subst p0; exact x_delL hg l7 hpp hkn) (fun p0 => x_delR p0 l7) hg' (x_delO hpp hS hn u2 hk (by omega) u4 (fun T hT' => (hg.2.1 T hT').1)) (fun gs' gp' fr' fc' gm' gk' gq' gw' gR' gS' nv' a1 a2 a3 a4 => h _ gs' gp' fr' fc' gm' gk' gq' gw' gR' gS' nv' (fun q q1 q2 q3 => ?_) a1 a2 a3 a4)
    rw [va_up_ne _ _ q1]
    exact iq q q1 q2 q3
end RCN3
