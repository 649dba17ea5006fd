/-! PURE, the reference: makeContracted -/
theorem x_prmE {n n' S : Nat} {k : Nat → Nat} (hn : n ≤ 12) (hS : S < 2 ^ n) (hk : x_kp (x_co n S) n' k) (hn' : n' = x_n (x_co n S)) : ∃ κ σ, x_prm n n' (x_n S) S k κ σ ∧ (∀ j, j < n → S.testBit j = false → κ (x_n S + x_cn j (fun i => !S.testBit i)) = j) ∧ (∀ j, j < n → S.testBit j = true → κ (x_cn j (fun i => S.testBit i)) = j) := by
  obtain ⟨kC, hC⟩ := x_kpE S
  have hsum := x_nco hn hS
  have hco : ∀ e, e ≤ n → x_cn e (fun i => (x_co n S).testBit i) = x_cn e (fun i => !S.testBit i) := fun e he => x_cnc e (fun i hi => x_cob (by omega))
  have cC : ∀ e, e < n → S.testBit e = true → x_cn e (fun i => S.testBit i) < x_n S ∧ kC (x_cn e (fun i => S.testBit i)) = e := fun e he hb => hC.2.2 e (by omega) hb
  have cD : ∀ e, e < n → S.testBit e = false → x_cn e (fun i => !S.testBit i) < n' ∧ k (x_cn e (fun i => !S.testBit i)) = e := fun e he hb => by
    have := hk.2.2 e (by omega) ((x_cobS hS).2 ⟨he, hb⟩)
    rw [hco e (by omega)] at this
    exact this
  have dC : ∀ j, j < x_n S → kC j < n ∧ S.testBit (kC j) = true := fun j hj => by
    have h1 := hC.2.1 j hj
    exact ⟨Classical.byContradiction (fun w => by rw [x_hi hS (by omega)] at h1; exact Bool.noConfusion h1), h1⟩
  have dD : ∀ j, j < n' → k j < n ∧ S.testBit (k j) = false := fun j hj => (x_cobS hS).1 (hk.2.1 j hj)
  refine ⟨fun j => if j < x_n S then kC j else k (j - x_n S), fun e => if S.testBit e = true then x_cn e (fun i => S.testBit i) else x_n S + x_cn e (fun i => !S.testBit i), ⟨hn, hS, by omega, fun e he => ?_, fun j hj => ?_, fun j hj => ?_, hk, fun j hj => ?_⟩, fun j hj hb => ?_, fun j hj hb => ?_⟩
  · show (if S.testBit e = true then x_cn e (fun i => S.testBit i) else x_n S + x_cn e (fun i => !S.testBit i)) < n ∧ (if (if S.testBit e = true then x_cn e (fun i => S.testBit i) else x_n S + x_cn e (fun i => !S.testBit i)) < x_n S then kC (if S.testBit e = true then x_cn e (fun i => S.testBit i) else x_n S + x_cn e (fun i => !S.testBit i)) else k ((if S.testBit e = true then x_cn e (fun i => S.testBit i) else x_n S + x_cn e (fun i => !S.testBit i)) - x_n S)) = e
    by_cases q : S.testBit e = true
    · have h1 := cC e he q
      rw [if_pos q, if_pos h1.1]
      exact ⟨by omega, h1.2⟩
    · have h1 := cD e he (Bool.eq_false_iff.2 q)
      rw [if_neg q, if_neg (by omega), Nat.add_sub_cancel_left]
      exact ⟨by omega, h1.2⟩
  · show (if j < x_n S then kC j else k (j - x_n S)) < n ∧ (if S.testBit (if j < x_n S then kC j else k (j - x_n S)) = true then x_cn (if j < x_n S then kC j else k (j - x_n S)) (fun i => S.testBit i) else x_n S + x_cn (if j < x_n S then kC j else k (j - x_n S)) (fun i => !S.testBit i)) = j
    by_cases q : j < x_n S
    · have h1 := dC j q
      rw [if_pos q, if_pos h1.2]
      exact ⟨h1.1, x_kpc hC q⟩
    · have h1 := dD (j - x_n S) (by omega)
      have h2 := x_kpc hk (show j - x_n S < n' by omega)
      rw [hco _ (by omega)] at h2
      rw [if_neg q, if_neg (by rw [h1.2]; exact Bool.noConfusion), h2]
      exact ⟨h1.1, by omega⟩
  · show j < x_n S ↔ S.testBit (if j < x_n S then kC j else k (j - x_n S)) = true
    by_cases q : j < x_n S
    · rw [if_pos q]; exact ⟨fun _ => (dC j q).2, fun _ => q⟩
    · rw [if_neg q, (dD (j - x_n S) (by omega)).2]
      exact ⟨fun w => absurd w q, fun w => Bool.noConfusion w⟩
  · show k j = if x_n S + j < x_n S then kC (x_n S + j) else k (x_n S + j - x_n S)
    rw [if_neg (by omega), Nat.add_sub_cancel_left]
  · show (if x_n S + x_cn j (fun i => !S.testBit i) < x_n S then kC (x_n S + x_cn j (fun i => !S.testBit i)) else k (x_n S + x_cn j (fun i => !S.testBit i) - x_n S)) = j
    rw [if_neg (by omega), Nat.add_sub_cancel_left]
    exact (cD j hj hb).2
  · show (if x_cn j (fun i => S.testBit i) < x_n S then kC (x_cn j (fun i => S.testBit i)) else k (x_cn j (fun i => S.testBit i) - x_n S)) = j
    rw [if_pos (cC j hj hb).1]
    exact (cC j hj hb).2
section RCN2
variable {p n n' s S r1 f m y : Nat} {K1 : Nat → Nat → Int} {iv gs gp fr fc gm gth ge gf gr gk gq gw gR gS go gz : Nat → Int32} {nv : Nat → px_NV}
/-- the rows from f on, the columns from s on, moved to the front -/
theorem r_shift {post : (Nat → Int32) → (Nat → Int32) → (Nat → Int32) → (Nat → Int32) → (Nat → Int32) → (Nat → Int32) → (Nat → Int32) → (Nat → Int32) → (Nat → Int32) → (Nat → Int32) → (Nat → Int32) → (Nat → Int32) → (Nat → Int32) → (Nat → Int32) → (Nat → Int32) → (Nat → Int32) → (Nat → Int32) → (Nat → px_NV) → Prop} {x2 x3 : Int32} (hn : n ≤ 12) (hr : r1 ≤ 12) (hf : f ≤ r1) (hs : s + n' = n) (hiv0 : iv 10 = nI r1) (hiv1 : iv 11 = nI n) (hX : r_X p n r1 gs nv K1)
    (h : ∀ gs' nv', r_X p n' (r1 - f) gs' nv' (x_conA n' s f K1) → w66_wp post (nI m) (va_up (va_up iv 10 (nI (r1 - f))) 11 (nI n')) gs' gp fr fc gm gth ge gf gr gk gq gw gR gS go gz nv') : w94_L49 post (nI m) x2 x3 (nI s) (nI f) iv gs gp fr fc gm gth ge gf gr gk gq gw gR gS go gz nv := by
  have rows : ∀ (u i : Nat) (gs1 : Nat → Int32) (nv1 : Nat → px_NV), i + u = r1 → f ≤ i → r_V nv1 → (∀ i' j', i' < i - f → j' < n' → r_e p gs1 nv1 (12 * i' + j') (K1 (f + i') (s + j'))) → (∀ i' j', i ≤ i' → i' < r1 → s ≤ j' → j' < n → r_e p gs1 nv1 (12 * i' + j') (K1 i' j')) → w94_L53 post (u + 1) (nI m) x2 x3 (nI s) (nI f) (nI i) iv gs1 gp fr fc gm gth ge gf gr gk gq gw gR gS go gz nv1 := by
    intro u
    induction u with
    | zero =>
      intro i gs1 nv1 hi hfi hV hd hsr
      have : i = r1 := by omega
      subst this
      refine ⟨fun _ z24 e24 z25 e25 => ?_, fun w => absurd (by rw [hiv0]; exact nI_le (Nat.le_refl i) (by omega)) w⟩
      rw [e24, e25, hiv0, hiv1, nI_subn hf, nI_subn (by omega), show n - s = n' by omega]
      refine h gs1 nv1 ⟨hV, fun i' hi' j' hj' => ?_⟩
      have h1 := hd i' j' (by omega) hj'
      have e : x_conA n' s f K1 i' j' = K1 (f + i') (s + j') := by unfold x_conA; rw [if_pos hj']
      rw [e]
      exact h1
    | succ u ih =>
      intro i gs1 nv1 hi hfi hV hd hsr
      refine ⟨fun w => absurd w (by rw [hiv0]; exact nI_ge (by omega) (by omega)), fun _ => ⟨n' + 1, ?_⟩⟩
      have cells : ∀ (v j : Nat) (gs2 : Nat → Int32) (nv2 : Nat → px_NV), j + v = n' → r_V nv2 → (∀ i' j', (i' < i - f ∧ j' < n') ∨ (i' = i - f ∧ j' < j) → r_e p gs2 nv2 (12 * i' + j') (K1 (f + i') (s + j'))) → (∀ i' j', (i < i' ∨ (i = i' ∧ s + j ≤ j')) → i' < r1 → s ≤ j' → j' < n → r_e p gs2 nv2 (12 * i' + j') (K1 i' j')) → w94_L66 (w94_L53 post (u + 1)) post (v + 1) (nI m) x2 x3 (nI s) (nI f) (nI i) (nI (s + j)) iv gs2 gp fr fc gm gth ge gf gr gk gq gw gR gS go gz nv2 := by
        intro v
        induction v with
        | zero =>
          intro j gs2 nv2 hj hV2 hd2 hsr2
          have : j = n' := by omega
          subst this
          refine ⟨fun _ z e => ?_, fun w => absurd (by rw [hiv1]; exact nI_le (by omega) (by omega)) w⟩
          rw [e, nI_1]
          refine ih (i + 1) gs2 nv2 (by omega) (by omega) hV2 (fun i' j' q1 q2 => hd2 i' j' ?_) (fun i' j' q1 q2 q3 q4 => hsr2 i' j' (Or.inl (by omega)) q2 q3 q4)
          by_cases q : i' < i - f
          · exact Or.inl ⟨q, q2⟩
          · exact Or.inr ⟨by omega, q2⟩
        | succ v ihv =>
          intro j gs2 nv2 hj hV2 hd2 hsr2
          unfold w94_L66
          refine ⟨fun w => absurd w (by rw [hiv1]; exact nI_ge (by omega) (by omega)), fun _ => ?_⟩
          have e1 : (12 : Int32) * nI i + nI (s + j) = nI (12 * i + (s + j)) := b_ix12
          have e2 : (12 : Int32) * (nI i - nI f) + nI (s + j) - nI s = nI (12 * (i - f) + j) := by
            rw [nI_subn hfi, b_ix12, nI_subn (by omega), show 12 * (i - f) + (s + j) - s = 12 * (i - f) + j by omega]
          rw [e1, e2, nI_clamp (show 12 * i + (s + j) < 2 ^ 31 by omega), nI_clamp (show 12 * (i - f) + j < 2 ^ 31 by omega), nI_subn hfi, nI_subn (show s ≤ s + j by omega), show s + j - s = j by omega]
          refine ⟨b_in (by omega) (by omega), fun z2 ez2 => ⟨b_in (by omega) (by omega), r_at (by omega) (by omega) ?_⟩⟩
          obtain ⟨x, hx⟩ := hV2 (12 * i + (s + j)) (by omega)
          refine pn_cpP (by decide) (by omega) (by omega) hx (fun nv3 k3 r3 => r_at (by omega) (by omega) ?_)
          refine pn_cpP (by omega) (by decide) (by omega) r3 (fun nv4 k4 r4 => ?_)
          intro z23 e23
          rw [e23, nI_1, show s + j + 1 = s + (j + 1) by omega]
          have hne : ∀ d, d < 156 → d ≠ 12 * (i - f) + j → nv4 d = nv2 d := fun d hd' q => by rw [k4 d q, k3 d (by omega)]
          have hsrc := hsr2 i (s + j) (Or.inr ⟨rfl, Nat.le_refl _⟩) (by omega) (by omega) (by omega)
          have hdst : r_e p (upd gs2 (12 * (i - f) + j) z2) nv4 (12 * (i - f) + j) (K1 i (s + j)) := by
            unfold r_e at hsrc ⊢
            by_cases p0 : p = 0
            · rw [if_pos p0] at hsrc ⊢
              rw [pn_Nu hsrc hx]; exact r4
            · rw [if_neg p0] at hsrc ⊢
              rw [pk_us, ez2]; exact hsrc
          refine ihv (j + 1) _ nv4 (by omega) (fun c hc => ?_) (fun i' j' q => ?_) (fun i' j' q q2 q3 q4 => ?_)
          · by_cases q : c = 12 * (i - f) + j
            · rw [q]; exact ⟨x, r4⟩
            · rw [hne c hc q]; exact hV2 c hc
          · by_cases w : i' = i - f ∧ j' = j
            · rw [w.1, w.2, show f + (i - f) = i by omega]; exact hdst
            · have hn' : 12 * i' + j' ≠ 12 * (i - f) + j := by omega
              exact r_ek (d' := 0) (hd2 i' j' (by omega)) (pk_un hn') (hne _ (by omega) hn')
          · have hn' : 12 * i' + j' ≠ 12 * (i - f) + j := by omega
            exact r_ek (d' := 0) (hsr2 i' j' (by omega) q2 q3 q4) (pk_un hn') (hne _ (by omega) hn')
      have := cells n' 0 gs1 nv1 (by omega) hV (fun i' j' q => hd i' j' (by omega) (by omega)) (fun i' j' q q2 q3 q4 => hsr i' j' (by omega) q2 q3 q4)
      rw [Nat.add_zero] at this
      exact this
  unfold w94_L49
  exact ⟨r1 - f + 1, rows (r1 - f) f gs nv (by omega) (Nat.le_refl f) hX.1 (fun i' j' q => absurd q (by omega)) (fun i' j' q1 q2 q3 q4 => hX.2 i' q2 j' q4)⟩
end RCN2
