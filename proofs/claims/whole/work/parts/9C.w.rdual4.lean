/-! PURE, the reference: makeDual -/
section RDL4
variable {p n r m y : Nat} {g : Nat → Int} {iv gs gp fr fc gm gth ge gf gr gk gq gw gR gS go gz : Nat → Int32} {nv : Nat → px_NV}
theorem r_Xk2 {R : Nat} {M : Nat → Nat → Int} {gs gs' : Nat → Int32} {nv nv' : Nat → px_NV} {j : Nat} (hR : R < 13) (hn : n ≤ 12) (hX : r_X p n R gs nv M) (hj : j < n) (h1 : ∀ d, d ≠ 12 * R + j → gs' d = gs d) (h2 : ∀ d, d < 156 → d ≠ 12 * R + j → nv' d = nv d) (h3 : (∃ z, pn_N (nv (12 * R + j)) z) → ∃ z, pn_N (nv' (12 * R + j)) z) : r_X p n R gs' nv' M := by
  refine ⟨fun c hc => ?_, fun i hi j' hj' => ?_⟩
  · by_cases q : c = 12 * R + j
    · rw [q] at hc ⊢; exact h3 (hX.1 _ hc)
    · rw [h2 c hc q]; exact hX.1 c hc
  · rw [h1 _ (by omega), h2 _ (by omega) (by omega)]
    exact hX.2 i hi j' hj'
theorem x_duZ {n' : Nat} {piv kN : Nat → Nat} {K : Nat → Nat → Int} {E : Int} (hK : x_KK p n r piv K) (hk : x_kp (x_co n (x_ps piv r)) n' kN) : ∀ t, t < n' → x_z0 n (x_duA p E (x_ps piv r) K kN t) := fun t ht j hj => by
  obtain ⟨c1, c2, c3⟩ := x_colc hK hk
  obtain ⟨kp, hZ, hZn⟩ := x_pskp hK.2.1 hK.2.2.2.2.1 (fun i hi => (hK.2.2.1 i hi).1)
  unfold x_duA
  rw [if_neg (by have := (c2 t ht).1; omega), if_neg (by rw [x_hi hZ hj]; exact Bool.noConfusion)]
theorem x_lcm2 (a b : Nat) : a / Nat.gcd a b * b = Nat.lcm a b := by
  unfold Nat.lcm
  rw [Nat.mul_comm, ← Nat.mul_div_assoc _ (Nat.gcd_dvd_left a b), Nat.mul_comm]
theorem r_dual {post : (Nat → Int32) → (Nat → Int32) → (Nat → Int32) → (Nat → Int32) → (Nat → Int32) → (Nat → Int32) → (Nat → Int32) → (Nat → Int32) → (Nat → Int32) → (Nat → Int32) → (Nat → Int32) → (Nat → Int32) → (Nat → Int32) → (Nat → Int32) → (Nat → Int32) → (Nat → Int32) → (Nat → Int32) → (Nat → px_NV) → Prop} (hm : m < 26) (hT : r_T go gz) (hV : r_V nv) (hG : r_G y p n r g gth ge gf gr gk gq gR gS)
    (h : ∀ iv' gs' gp' fr' fc' gm' gk' gq' gw' gR' gS' nv', (∀ q, q ≠ 10 → q ≠ 11 → q ≠ 12 → iv' q = iv q) → r_V nv' → r_G m p n (n - r) (x_fd n g) (upd gth m 1) (upd ge m (nI n)) (upd gf m (nI p)) (upd gr m (nI (n - r))) gk' gq' gR' gS' → (∀ e, e < 12 → gw' (12 * m + e) = 0) → r_kf m gk gq gw gR gS gk' gq' gw' gR' gS' → post iv' gs' gp' fr' fc' gm' (upd gth m 1) (upd ge m (nI n)) (upd gf m (nI p)) (upd gr m (nI (n - r))) gk' gq' gw' gR' gS' go gz nv') : w91_wp post (nI m) (nI y) iv gs gp fr fc gm gth ge gf gr gk gq gw gR gS go gz nv := by
  obtain ⟨hg, piv, K, hL, hpp⟩ := hG
  obtain ⟨l1, l2, l3, l4, l5, l6, l7, l8, l9, l10⟩ := hL
  have hn := hg.1
  have hr : r ≤ 12 := by have := l7.1; omega
  have hp256 : p < 256 := by
    rcases l6 with q | q
    · rw [q]; decide
    · have := q.2.1; omega
  have hp0 : p = 0 ∨ (1 < p ∧ p < 256) := by
    rcases l6 with q | q
    · exact Or.inl q
    · exact Or.inr ⟨q.1, hp256⟩
  obtain ⟨kp, hZ, hZn⟩ := x_pskp hn l7.2.2.2.2.1 (fun i hi => (l7.2.2.1 i hi).1)
  have hpne : ∀ i i', i < i' → i' < r → piv i ≠ piv i' := fun i i' q1 q2 w => by have := l7.2.2.2.2.1 i i' q1 q2; omega
  obtain ⟨kN, hk⟩ := x_kpE (x_co n (x_ps piv r))
  have hsum := x_nco hn hZ
  have hn' : x_n (x_co n (x_ps piv r)) = n - r := by omega
  rw [hn'] at hk
  obtain ⟨c1, c2, c3⟩ := x_colc l7 hk
  have hcoc : ∀ e, e ≤ n → x_cn e (fun i => (x_co n (x_ps piv r)).testBit i) = x_cn e (fun i => !(x_ps piv r).testBit i) := fun e he => x_cnc e (fun i hi => x_cob (by omega))
  have hcn : x_cn n (fun i => !(x_ps piv r).testBit i) = n - r := by
    have h1 := x_cnn2 (fun i => (x_ps piv r).testBit i) n
    rw [x_cnS hn hZ, hZn] at h1
    omega
  have hy : vp_in (nI y) 26 := b_in l1 (by omega)
  -- what the rows are
  have hEB : p = 0 → (x_duE p piv K r).natAbs ≤ (2 ^ 142) ^ 6 := fun p0 => by
    unfold x_duE
    rw [if_pos p0, Int.natAbs_natCast]
    subst p0
    exact x_lcB hg l7 hpp
  have fin : ∀ (iv1 gs1 : Nat → Int32) (nv1 : Nat → px_NV), iv1 12 = nI p → iv1 11 = nI n → iv1 10 = nI (n - r) → (∀ q, q ≠ 10 → q ≠ 11 → q ≠ 12 → iv1 q = iv q) → r_X p n (n - r) gs1 nv1 (x_duA p (x_duE p piv K r) (x_ps piv r) K kN) → w66_wp post (nI m) iv1 gs1 gp fr fc gm gth ge gf gr gk gq gw gR gS go gz nv1 := fun iv1 gs1 nv1 i12 i11 i10 iq hX => by
    refine r_becG (A := x_duA p (x_duE p piv K r) (x_ps piv r) K kN) (R := n - r) (n := n) l6 hm i12 i11 i10 (by omega) hT hX (x_duZ l7 hk) (fun p0 => by subst p0; exact x_duL hg l7 hpp hk) (fun p0 => ?_) (x_duG l6 hg) (fun F _ φ hmm => x_duO hmm hg l7 hpp hk (x_duF hmm l7 hk)) (fun gs' gp' fr' fc' gm' gk' gq' gw' gR' gS' nv' a1 a2 a3 a4 => h _ gs' gp' fr' fc' gm' gk' gq' gw' gR' gS' nv' (fun q q1 q2 q3 => by rw [va_up_ne _ _ q1]; exact iq q q1 q2 q3) a1 a2 a3 a4)
    intro t _
    have e : x_duE p piv K r = 1 := by unfold x_duE; rw [if_neg p0]
    rw [e]
    exact x_duR (hp0.resolve_left p0).1 t
  -- the rows, one for each column that is no pivot
  have rows : ∀ (u j : Nat) (iv1 gs1 : Nat → Int32) (nv1 : Nat → px_NV), j + u = n → iv1 12 = nI p → iv1 11 = nI n → iv1 10 = nI (x_cn j (fun i => !(x_ps piv r).testBit i)) → (∀ q, q ≠ 10 → q ≠ 11 → q ≠ 12 → iv1 q = iv q) → (p = 0 → pn_N (nv1 199) (x_duE p piv K r)) → r_X p n (x_cn j (fun i => !(x_ps piv r).testBit i)) gs1 nv1 (x_duA p (x_duE p piv K r) (x_ps piv r) K kN) → w91_L143 post (u + 1) (nI m) (nI y) (nI (x_ps piv r)) (nI j) iv1 gs1 gp fr fc gm gth ge gf gr gk gq gw gR gS go gz nv1 := by
    intro u
    induction u with
    | zero =>
      intro j iv1 gs1 nv1 hj i12 i11 i10 iq hE hX
      have : j = n := by omega
      subst this
      rw [hcn] at i10 hX
      exact ⟨fun _ => fin iv1 gs1 nv1 i12 i11 i10 iq hX, fun w => absurd (by rw [i11]; exact nI_le (Nat.le_refl j) (by omega)) w⟩
    | succ u ih =>
      intro j iv1 gs1 nv1 hj i12 i11 i10 iq hE hX
      have hs : x_cn (j + 1) (fun i => !(x_ps piv r).testBit i) = x_cn j (fun i => !(x_ps piv r).testBit i) + (if (!(x_ps piv r).testBit j) = true then 1 else 0) := rfl
      have hle := x_cnm (fun i => !(x_ps piv r).testBit i) (show j + 1 ≤ n by omega)
      rw [hcn] at hle
      have hZ31 : x_ps piv r < 2 ^ 31 := Nat.lt_of_lt_of_le hZ (Nat.pow_le_pow_right (by decide) (by omega))
      refine ⟨fun w => absurd w (by rw [i11]; exact nI_ge (by omega) (by omega)), fun _ => ⟨fun w => ?_, fun w => ?_⟩⟩
      · have hb : (x_ps piv r).testBit j = false := Bool.eq_false_iff.2 (fun q => w ((b_bit1 hZ31 (by omega)).2 q))
        rw [hb] at hs
        have hs : x_cn (j + 1) (fun i => !(x_ps piv r).testBit i) = x_cn j (fun i => !(x_ps piv r).testBit i) + 1 := hs
        have hkt := hk.2.2 j (by omega) ((x_cobS hZ).2 ⟨by omega, hb⟩)
        rw [hcoc j (by omega)] at hkt
        generalize x_cn j (fun i => !(x_ps piv r).testBit i) = t at *
        obtain ⟨ht, hkt⟩ := hkt
        -- the pivot columns of the row
        have ag : ∀ (v i : Nat) (gs2 : Nat → Int32) (nv2 : Nat → px_NV), i + v = r → (p = 0 → pn_N (nv2 199) (x_duE p piv K r)) → r_X p n t gs2 nv2 (x_duA p (x_duE p piv K r) (x_ps piv r) K kN) → (∀ k, k < n → r_e p gs2 nv2 (12 * t + k) (if k = j then x_duE p piv K r else if (x_ps piv i).testBit k = true then x_duA p (x_duE p piv K r) (x_ps piv r) K kN t k else 0)) → w91_L239 (w91_L143 post (u + 1)) post (v + 1) (nI m) (nI y) (nI (x_ps piv r)) (nI j) (nI i) iv1 gs2 gp fr fc gm gth ge gf gr gk gq gw gR gS go gz nv2 := by
          intro v
          induction v with
          | zero =>
            intro i gs2 nv2 hi hE2 hX2 hC
            have : i = r := by omega
            subst this
            unfold w91_L239 w91_L275
            rw [nI_clamp (show y < 2 ^ 31 by omega), l5]
            refine ⟨hy, fun _ z2 e2 z1 e1 => ?_, fun w => absurd (nI_le (Nat.le_refl i) (by omega)) w⟩
            rw [e1, nI_1]
            refine ih (j + 1) _ gs2 nv2 (by omega) (by rw [va_up_ne _ _ (by decide)]; exact i12) (by rw [va_up_ne _ _ (by decide)]; exact i11) (by rw [va_up_self, e2, i10, nI_1, hs]) (fun q q1 q2 q3 => by rw [va_up_ne _ _ q1]; exact iq q q1 q2 q3) hE2 ?_
            rw [hs]
            refine ⟨hX2.1, fun i' hi' k hk' => ?_⟩
            by_cases q : i' = t
            · subst q
              have h1 := hC k hk'
              have e : (if k = j then x_duE p piv K i else if (x_ps piv i).testBit k = true then x_duA p (x_duE p piv K i) (x_ps piv i) K kN i' k else 0) = x_duA p (x_duE p piv K i) (x_ps piv i) K kN i' k := by
                by_cases q1 : k = j
                · rw [if_pos q1]
                  unfold x_duA
                  rw [if_pos (by rw [hkt]; exact q1)]
                · rw [if_neg q1]
                  by_cases q2 : (x_ps piv i).testBit k = true
                  · rw [if_pos q2]
                  · rw [if_neg q2]
                    unfold x_duA
                    rw [if_neg (by rw [hkt]; exact q1), if_neg q2]
              rw [e] at h1
              exact h1
            · exact hX2.2 i' (by omega) k hk'
          | succ v ihv =>
            intro i gs2 nv2 hi hE2 hX2 hC
            have hpi := (l7.2.2.1 i (by omega)).1
            unfold w91_L239
            rw [nI_clamp (show y < 2 ^ 31 by omega), l5]
            refine ⟨hy, fun w => absurd w (nI_ge (by omega) (by omega)), fun _ => ?_⟩
            refine r_against (E := x_duE p piv K r) (t := t) hp0 l1 (show i < r by omega) (show j < n by omega) (by omega) hr l7 l4 i12 i10 l8 (fun p0 => ⟨hE2 p0, hEB p0⟩) (fun gs3 nv3 b1 b2 b3 b4 b5 z10 e10 => ?_)
            rw [e10, nI_1]
            refine ihv (i + 1) gs3 nv3 (by omega) (fun p0 => by rw [b3]; exact hE2 p0) (r_Xk2 (by omega) hn hX2 hpi b1 b2 b5) (fun k hk' => ?_)
            have hpb : (x_ps piv (i + 1)) = x_t (x_ps piv i) (piv i) := rfl
            by_cases q : k = piv i
            · have hkj : k ≠ j := fun w => by
                rw [q] at w
                have := kp.2.1 i (by omega)
                rw [w, hb] at this; exact Bool.noConfusion this
              have hnb : (x_ps piv i).testBit (piv i) = false := Bool.eq_false_iff.2 (fun w => by
                obtain ⟨i', w1, w2⟩ := (x_psb i (fun a b q1 q2 => hpne a b q1 (by omega)) (piv i)).1 w
                exact hpne i' i w1 (by omega) w2)
              rw [if_neg hkj, q, hpb, x_tbs, hnb, if_pos (show (!false) = true from rfl), x_duP (E := x_duE p piv K r) l7 hk ht (show i < r by omega), hkt]
              exact b4
            · rw [hpb, x_tbn q]
              exact r_ek (d' := 0) (hC k hk') (b1 _ (by omega)) (b2 _ (by omega) (by omega))
        have zeros : ∀ (v k : Nat) (gs2 : Nat → Int32) (nv2 : Nat → px_NV), k + v = n → (p = 0 → pn_N (nv2 199) (x_duE p piv K r)) → r_X p n t gs2 nv2 (x_duA p (x_duE p piv K r) (x_ps piv r) K kN) → (∀ k', k' < k → r_e p gs2 nv2 (12 * t + k') (if k' = j ∧ p ≠ 0 then 1 else 0)) → w91_L168 (w91_L143 post (u + 1)) post (v + 1) (nI m) (nI y) (nI (x_ps piv r)) (nI j) (nI k) iv1 gs2 gp fr fc gm gth ge gf gr gk gq gw gR gS go gz nv2 := by
          intro v
          induction v with
          | zero =>
            intro k gs2 nv2 hk' hE2 hX2 hC
            have : k = n := by omega
            subst this
            refine ⟨fun _ => ⟨fun w => ⟨r + 1, ?_⟩, fun w => ?_⟩, fun w => absurd (by rw [i11]; exact nI_le (Nat.le_refl k) (by omega)) w⟩
            · have p0 : p ≠ 0 := fun q => w (by rw [i12, q]; rfl)
              refine ag r 0 gs2 nv2 (by omega) hE2 hX2 (fun k' q => ?_)
              have h1 := hC k' q
              have e : (if k' = j ∧ p ≠ 0 then (1 : Int) else 0) = (if k' = j then x_duE p piv K r else if (x_ps piv 0).testBit k' = true then x_duA p (x_duE p piv K r) (x_ps piv r) K kN t k' else 0) := by
                have e0 : (x_ps piv 0).testBit k' = false := Nat.zero_testBit k'
                rw [e0]
                by_cases q1 : k' = j
                · rw [if_pos ⟨q1, p0⟩, if_pos q1]
                  unfold x_duE
                  rw [if_neg p0]
                · rw [if_neg (fun z => q1 z.1), if_neg q1]; rfl
              rw [← e]; exact h1
            · have w2 : nI p = 0 := by rw [← i12]; exact w
              have p0 : p = 0 := Classical.byContradiction (fun q => nI_ne0 (by omega) (by omega) w2)
              rw [i10]
              refine r_at (by omega) (by omega) ?_
              refine pn_cpP (by omega) (by decide) (by omega) (hE2 p0) (fun nv3 k3 r3 => ⟨r + 1, ?_⟩)
              refine ag r 0 gs2 nv3 (by omega) (fun _ => by rw [k3 199 (by omega)]; exact hE2 p0) (r_Xk (j := j) (by omega) hn hX2 (by omega) (fun _ _ => rfl) k3 (fun _ => ⟨_, r3⟩)) (fun k' q => ?_)
              by_cases q1 : k' = j
              · rw [if_pos q1, q1]
                unfold r_e
                rw [if_pos p0]; exact r3
              · have h1 := hC k' q
                have e0 : (x_ps piv 0).testBit k' = false := Nat.zero_testBit k'
                rw [if_neg (fun z => q1 z.1)] at h1
                rw [if_neg q1, e0, if_neg Bool.noConfusion]
                exact r_ek (d' := 0) h1 rfl (k3 _ (by omega))
          | succ v ihv =>
            intro k gs2 nv2 hk' hE2 hX2 hC
            have put : ∀ (x : Int), (x = if k = j ∧ p ≠ 0 then 1 else 0) → w49_wp (fun v11 v12 v13 => ∀ z15 : Int32, z15 = nI k + 1 → w91_L168 (w91_L143 post (u + 1)) post (v + 1) (nI m) (nI y) (nI (x_ps piv r)) (nI j) z15 v11 v12 gp fr fc gm gth ge gf gr gk gq gw gR gS go gz v13) (nI t) (nI k) (iL x) iv1 gs2 nv2 := fun x ex => by
              have hxb : x = 0 ∨ x = 1 := by rw [ex]; split <;> simp
              refine r_put (v := x) hp0 i12 (by omega) (by omega) (by omega) (by omega) (fun gs3 nv3 b1 b2 b3 b4 z ez => ?_)
              rw [ez, nI_1]
              refine ihv (k + 1) gs3 nv3 (by omega) (fun p0 => by rw [b2 199 (by omega)]; exact hE2 p0) (r_Xk (j := k) (by omega) hn hX2 (by omega) b1 b2 b4) (fun k' q => ?_)
              by_cases q1 : k' = k
              · rw [q1, ← ex]
                have e : (if p = 0 then x else x % (p : Int)) = x := by
                  split
                  · rfl
                  · have := (hp0.resolve_left (by assumption)).1
                    exact Int.emod_eq_of_lt (by omega) (by omega)
                rw [e] at b3; exact b3
              · exact r_ek (d' := 0) (hC k' (by omega)) (b1 _ (by omega)) (b2 _ (by omega))
            unfold w91_L168 w91_L202 w91_L203
            rw [i10, i12]
            refine ⟨fun w => absurd w (by rw [i11]; exact nI_ge (by omega) (by omega)), fun _ => ⟨fun w => put 0 ?_, fun w => ⟨fun w' => put 0 ?_, fun w' => put 1 ?_⟩⟩⟩
            · rw [if_neg (fun q => w (by rw [q.1]))]
            · rw [if_neg (fun q => absurd w' (by rw [show (0 : Int32) = nI 0 from rfl]; exact nI_ge (by omega) (by omega)))]
            · have hkj : k = j := (nI_eq (by omega) (by omega)).1 w
              rw [if_pos ⟨hkj, fun q => w' (by rw [q]; exact Int32.le_refl 0)⟩]
        exact ⟨n + 1, zeros n 0 gs1 nv1 (by omega) hE hX (fun k' q => absurd q (Nat.not_lt_zero k'))⟩
      · have hb : (x_ps piv r).testBit j = true := (b_bit1 hZ31 (by omega)).1 w
        rw [hb] at hs
        have hs : x_cn (j + 1) (fun i => !(x_ps piv r).testBit i) = x_cn j (fun i => !(x_ps piv r).testBit i) + 0 := hs
        rw [Nat.add_zero] at hs
        unfold w91_L275
        intro z1 e1
        rw [e1, nI_1]
        exact ih (j + 1) iv1 gs1 nv1 (by omega) i12 i11 (by rw [hs]; exact i10) iq hE (by rw [hs]; exact hX)
  -- the pivots
  have j12 : va_up (va_up (va_up iv 12 (nI p)) 11 (nI n)) 10 0 12 = nI p := by rw [va_up_ne _ _ (by decide), va_up_ne _ _ (by decide), va_up_self]
  have j11 : va_up (va_up (va_up iv 12 (nI p)) 11 (nI n)) 10 0 11 = nI n := by rw [va_up_ne _ _ (by decide), va_up_self]
  have j10 : va_up (va_up (va_up iv 12 (nI p)) 11 (nI n)) 10 0 10 = nI 0 := va_up_self _ _ _
  have jq : ∀ q, q ≠ 10 → q ≠ 11 → q ≠ 12 → va_up (va_up (va_up iv 12 (nI p)) 11 (nI n)) 10 0 q = iv q := fun q q1 q2 q3 => by rw [va_up_ne _ _ q1, va_up_ne _ _ q2, va_up_ne _ _ q3]
  unfold w91_wp
  rw [nI_clamp (show y < 2 ^ 31 by omega), l3, l4]
  refine ⟨hy, hy, ?_⟩
  show px_ix [199] ∧ _
  generalize va_up (va_up (va_up iv 12 (nI p)) 11 (nI n)) 10 0 = iv1 at *
  have pivs : ∀ (u i : Nat) (nv1 : Nat → px_NV), i + u = r → r_V nv1 → (p = 0 → pn_N (nv1 199) (x_lc piv K i : Int)) → w91_L29 post (u + 1) (nI m) (nI y) (nI (x_ps piv i)) (nI i) iv1 gs gp fr fc gm gth ge gf gr gk gq gw gR gS go gz nv1 := by
    intro u
    induction u with
    | zero =>
      intro i nv1 hi hV1 hE
      have : i = r := by omega
      subst this
      unfold w91_L29
      rw [nI_clamp (show y < 2 ^ 31 by omega), l5]
      refine ⟨hy, fun _ => ⟨n + 1, ?_⟩, fun w => absurd (nI_le (Nat.le_refl i) (by omega)) w⟩
      exact rows n 0 iv1 gs nv1 (by omega) j12 j11 j10 jq (fun p0 => by unfold x_duE; rw [if_pos p0]; exact hE p0) ⟨hV1, fun i' q => absurd q (Nat.not_lt_zero i')⟩
    | succ u ih =>
      intro i nv1 hi hV1 hE
      have hpi := l7.2.2.1 i (by omega)
      have hZi : x_ps piv i < 2 ^ 12 := (x_pskp hn (fun a b q1 q2 => l7.2.2.2.2.1 a b q1 (by omega)) (fun a q => (l7.2.2.1 a (by omega)).1) : x_kp (x_ps piv i) i piv ∧ _).2.1 |> fun q => Nat.lt_of_lt_of_le q (Nat.pow_le_pow_right (by decide) hn)
      have hnb : (x_ps piv i).testBit (piv i) = false := Bool.eq_false_iff.2 (fun w => by
        obtain ⟨i', w1, w2⟩ := (x_psb i (fun a b q1 q2 => hpne a b q1 (by omega)) (piv i)).1 w
        exact hpne i' i w1 (by omega) w2)
      have eps : nI (x_ps piv i) ||| (1 : Int32) <<< (nI (piv i) &&& 31) = nI (x_ps piv (i + 1)) := by
        rw [b_sh (by omega), b_or, x_tor0 hnb]; rfl
      unfold w91_L29 w91_L134
      rw [nI_clamp (show y < 2 ^ 31 by omega), l5]
      refine ⟨hy, fun w => absurd w (nI_ge (by omega) (by omega)), fun _ => ?_⟩
      refine r_pivotOf hp256 l1 (show i < r by omega) l7 l4 l8 (fun z51 e51 => ?_)
      rw [eps] at e51
      subst e51
      refine ⟨fun w z e => ?_, fun w => ?_⟩
      · have p0 : p ≠ 0 := fun q => w (by rw [j12, q]; rfl)
        rw [e, nI_1]
        exact ih (i + 1) nv1 (by omega) hV1 (fun q => absurd q p0)
      · have w2 : nI p = 0 := by rw [← j12]; exact w
        have p0 : p = 0 := Classical.byContradiction (fun q => nI_ne0 (by omega) (by omega) w2)
        have k1 := l8 i (by omega) (piv i) hpi.1
        have b1 := (l7.2.2.2.2.2.2.2.1 p0 i (by omega)).2 _ hpi.1
        unfold r_ke at k1
        rw [if_pos p0] at k1
        have h142 : (2 : Nat) ^ 142 < 65536 ^ 9 := by decide +kernel
        have h159 : (65536 : Nat) ^ 9 ≤ 65536 ^ 159 := by decide +kernel
        have h852 : ((2 : Nat) ^ 142) ^ 6 < 65536 ^ 54 := by decide +kernel
        have hlp := x_lcp (piv := piv) (K := K) i (fun a q => (l7.2.2.1 a (by omega)).2)
        have hlb : x_lc piv K i ≤ (2 ^ 142) ^ 6 := by
          subst p0
          refine Nat.le_trans (Nat.le_of_dvd (x_lcp (piv := piv) (K := K) r (fun a q => (l7.2.2.1 a q).2)) (x_lcM i (fun a q => x_lcd r a (by omega)))) (x_lcB hg l7 hpp)
        rw [b_at3, b_at24]
        refine r_fetch (by decide) (by omega) k1 (fun nv2 n2 r2 => ?_)
        refine r_divisor (by decide) (by decide) (by decide) (by decide) (by decide) (by rw [n2 199 (by decide)]; exact hE p0) r2 (Nat.lt_of_le_of_lt b1 (Nat.lt_of_lt_of_le h142 h159)) (fun nv3 n3 r3 => ?_)
        have hgp : 0 < Nat.gcd ((x_lc piv K i : Int)).natAbs (K i (piv i)).natAbs := Nat.gcd_pos_of_pos_left _ (by rw [Int.natAbs_natCast]; exact hlp)
        have hgl : Nat.gcd ((x_lc piv K i : Int)).natAbs (K i (piv i)).natAbs ≤ (K i (piv i)).natAbs := Nat.gcd_le_right _ (by omega)
        refine pn_quP (by decide) (by decide) (by decide) (by decide) (by decide) (by decide) (by decide) (by decide) (by decide) (by decide) (by rw [n3 199 (by decide) (by decide) (by decide) (by decide), n2 199 (by decide)]; exact hE p0) r3 (by
          rw [Int.natAbs_natCast]
          exact Nat.lt_of_le_of_lt (Nat.le_trans hgl b1) (Nat.lt_of_lt_of_le h142 h159)) (by omega) (fun nv4 n4 r4 _ => ?_)
        refine pn_prP (c := 54) (d := 9) (by decide) (by decide) (by decide) (by decide) (by decide) (by decide) r4 (by rw [n4 197 (by decide) (by decide), n3 197 (by decide) (by decide) (by decide) (by decide)]; exact r2) (by
          rw [Int.natAbs_tdiv, Int.natAbs_natCast]
          exact Nat.lt_of_le_of_lt (Nat.le_trans (Nat.div_le_self _ _) hlb) h852) (Nat.lt_of_le_of_lt b1 h142) (by decide) (fun nv5 n5 r5 => ?_)
        intro z e
        rw [e, nI_1]
        refine ih (i + 1) nv5 (by omega) (fun c hc => ?_) (fun _ => ?_)
        · rw [n5 c (by omega), n4 c (by omega) (by omega), n3 c (by omega) (by omega) (by omega) (by omega), n2 c (by omega)]
          exact hV1 c hc
        · have e6 : (x_lc piv K i : Int).tdiv (Nat.gcd ((x_lc piv K i : Int)).natAbs (K i (piv i)).natAbs : Nat) * K i (piv i) = (x_lc piv K (i + 1) : Int) := by
            show _ = (Nat.lcm (x_lc piv K i) (K i (piv i)).natAbs : Int)
            rw [← x_lcm2, Int.natAbs_natCast, Int.natCast_mul, Int.natAbs_of_nonneg (by omega), Int.natCast_ediv, Int.tdiv_eq_ediv_of_nonneg (by omega)]
          rw [← e6]
          exact r5
  refine pn_smP (x := 1) (by decide) (by decide) (by decide) (fun nv1 n1 r1 => ⟨r + 1, ?_⟩)
  exact pivs r 0 nv1 (by omega) (fun c hc => by rw [n1 c (by omega)]; exact hV c hc) (fun _ => r1)
end RDL4
