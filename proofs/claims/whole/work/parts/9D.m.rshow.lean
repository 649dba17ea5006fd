/-! PURE, the reference: show -/
def x_shc (p : Nat) (piv : Nat → Nat) (K : Nat → Nat → Int) (i j : Nat) : List Nat := (if j = 0 then [] else [32]) ++ (if p = 0 then x_rt0 false (K i j) (K i (piv i)) else x_dg (K i j).toNat)
def x_shr (p n : Nat) (piv : Nat → Nat) (K : Nat → Nat → Int) (i : Nat) : List Nat := x_fa (x_shc p piv K i) n 0 ++ [10]
theorem x_st6 : x_str 6 = [45] := by decide +kernel
section RSW
variable {iv sh gd gth ge gf gr gk gq gR gS : Nat → Int32} {U : List Nat} {nv : Nat → px_NV} {m p n r : Nat} {piv : Nat → Nat} {K : Nat → Nat → Int}
/-- the ratio that is written -/
theorem x_rtz {A d : Int} (hd : 0 < d) : x_rt0 false A d = x_zd (A.tdiv (Nat.gcd A.natAbs d.natAbs : Nat)) ++ (if d.natAbs / Nat.gcd A.natAbs d.natAbs = 1 then [] else [47] ++ x_zd ((d.natAbs / Nat.gcd A.natAbs d.natAbs : Nat) : Int)) := by
  have hg0 : 0 < Nat.gcd A.natAbs d.natAbs := Nat.gcd_pos_of_pos_right _ (by omega)
  by_cases hA : A = 0
  · subst hA
    have e1 : Nat.gcd (0 : Int).natAbs d.natAbs = d.natAbs := Nat.gcd_zero_left _
    unfold x_rt0
    rw [if_pos (Or.inl rfl), e1, Int.zero_tdiv, Nat.div_self (by omega), if_pos rfl]
    rfl
  · have hdv : (0 : Nat) < d.natAbs / Nat.gcd A.natAbs d.natAbs := Nat.div_pos (Nat.gcd_le_right _ (by omega)) hg0
    have hAv : (0 : Nat) < A.natAbs / Nat.gcd A.natAbs d.natAbs := Nat.div_pos (Nat.gcd_le_left _ (by omega)) hg0
    have e2 : (A.tdiv (Nat.gcd A.natAbs d.natAbs : Nat)).natAbs = A.natAbs / Nat.gcd A.natAbs d.natAbs := by rw [Int.natAbs_tdiv, Int.natAbs_natCast]; rfl
    have e3 : (A.tdiv (Nat.gcd A.natAbs d.natAbs : Nat) < 0) ↔ A < 0 := by
      have h1 : A.tdiv (Nat.gcd A.natAbs d.natAbs : Nat) * (Nat.gcd A.natAbs d.natAbs : Nat) = A := Int.tdiv_mul_cancel (Int.dvd_natAbs.1 (Int.natCast_dvd_natCast.2 (Nat.gcd_dvd_left _ _)))
      generalize hQ : A.tdiv (Nat.gcd A.natAbs d.natAbs : Nat) = Q at *
      have hgi : (0 : Int) < (Nat.gcd A.natAbs d.natAbs : Nat) := by omega
      generalize ((Nat.gcd A.natAbs d.natAbs : Nat) : Int) = G at *
      rw [← h1]
      constructor
      · intro q; exact Int.mul_neg_of_neg_of_pos q hgi
      · intro q
        refine Classical.byContradiction (fun w => ?_)
        have := Int.mul_nonneg (show 0 ≤ Q by omega) (Int.le_of_lt hgi)
        omega
    have z1 : x_zd (A.tdiv (Nat.gcd A.natAbs d.natAbs : Nat)) = (if A < 0 then [45] else []) ++ x_dg (A.natAbs / Nat.gcd A.natAbs d.natAbs) := by
      unfold x_zd
      rw [if_neg (fun q => by rw [q] at e2; have : (0 : Int).natAbs = 0 := rfl; omega), e2]
      simp only [e3]
    have z2 : x_zd ((d.natAbs / Nat.gcd A.natAbs d.natAbs : Nat) : Int) = x_dg (d.natAbs / Nat.gcd A.natAbs d.natAbs) := by
      unfold x_zd
      rw [if_neg (by omega), if_neg (by omega), Int.natAbs_natCast]; rfl
    unfold x_rt0
    rw [if_neg (by omega), z1, z2]
    have hdn : decide (d < 0) = false := decide_eq_false (by omega)
    rw [hdn, Bool.xor_false, Bool.false_xor]
    by_cases q : A < 0
    · rw [if_pos q, decide_eq_true q, if_pos rfl, x_st6, List.append_assoc]
    · rw [if_neg q, decide_eq_false q, if_neg Bool.noConfusion, x_st123.1]; rfl
theorem rp_show {post : (Nat → Int32) → (Nat → Int32) → (Nat → Int32) → (Nat → Int32) → (Nat → Int32) → (Nat → Int32) → (Nat → Int32) → (Nat → Int32) → (Nat → px_NV) → Prop} (hLt : r_L m p n r piv K gth ge gf gr gk gq gR gS) (hI : rp_I iv sh U) (h : ∀ iv' sh' gd' nv', rp_I iv' sh' (U ++ x_fa (x_shr p n piv K) r 0) → rp_Q iv iv' → (∀ q, q < 156 → nv' q = nv q) → post iv' ge gf gr gk gq sh' gd' nv') : w108_wp post (nI m) iv ge gf gr gk gq sh gd nv := by
  obtain ⟨l1, l2, l3, l4, l5, l6, l7, l8, l9, l10⟩ := hLt
  have hn := l7.2.1
  have hr : r ≤ 12 := by have := l7.1; omega
  have hp256 : p < 256 := by
    rcases l6 with q | q
    · rw [q]; decide
    · have := q.2.1; omega
  have inm : vp_in (nI m) 26 := b_in l1 (by omega)
  have h142 : (2 : Nat) ^ 142 < 10 ^ 48 := by decide +kernel
  have h159 : (2 : Nat) ^ 142 < 65536 ^ 159 := by decide +kernel
  have rows : ∀ (u i : Nat) (iv1 sh1 gd1 : Nat → Int32) (nv1 : Nat → px_NV) (V : List Nat), i + u = r → rp_I iv1 sh1 V → rp_Q iv iv1 → (∀ q, q < 156 → nv1 q = nv q) → V ++ x_fa (x_shr p n piv K) u i = U ++ x_fa (x_shr p n piv K) r 0 → w108_L2 post (u + 1) (nI m) (nI i) iv1 ge gf gr gk gq sh1 gd1 nv1 := by
    intro u
    induction u with
    | zero =>
      intro i iv1 sh1 gd1 nv1 V hi hI1 hQ1 hn1 hV
      have : i = r := by omega
      subst this
      unfold w108_L2
      rw [nI_clamp (show m < 2 ^ 31 by omega), l5]
      refine ⟨inm, fun _ => h iv1 sh1 gd1 nv1 ?_ hQ1 hn1, fun w => absurd (nI_le (Nat.le_refl i) (by omega)) w⟩
      rw [← hV]
      show rp_I iv1 sh1 (V ++ [])
      rw [List.append_nil]; exact hI1
    | succ u ih =>
      intro i iv1 sh1 gd1 nv1 V hi hI1 hQ1 hn1 hV
      have hpi := l7.2.2.1 i (by omega)
      have hfa : x_fa (x_shr p n piv K) (u + 1) i = x_shr p n piv K i ++ x_fa (x_shr p n piv K) u (i + 1) := rfl
      rw [hfa] at hV
      unfold w108_L2
      rw [nI_clamp (show m < 2 ^ 31 by omega), l5]
      refine ⟨inm, fun w => absurd w (nI_ge (by omega) (by omega)), fun _ => ?_⟩
      refine r_pivotOf hp256 l1 (show i < r by omega) l7 l4 l8 ⟨n + 1, ?_⟩
      have cells : ∀ (v j : Nat) (iv2 sh2 gd2 : Nat → Int32) (nv2 : Nat → px_NV) (W : List Nat), j + v = n → rp_I iv2 sh2 W → rp_Q iv iv2 → (∀ q, q < 156 → nv2 q = nv q) → W ++ (x_fa (x_shc p piv K i) v j ++ [10] ++ x_fa (x_shr p n piv K) u (i + 1)) = U ++ x_fa (x_shr p n piv K) r 0 → w108_L22 (w108_L2 post (u + 1)) post (v + 1) (nI m) (nI i) (nI (piv i)) (nI j) iv2 ge gf gr gk gq sh2 gd2 nv2 := by
        intro v
        induction v with
        | zero =>
          intro j iv2 sh2 gd2 nv2 W hj hI2 hQ2 hn2 hW
          have : j = n := by omega
          subst this
          unfold w108_L22
          rw [nI_clamp (show m < 2 ^ 31 by omega), l3]
          refine ⟨inm, fun _ => ?_, fun w => absurd (nI_le (Nat.le_refl j) (by omega)) w⟩
          refine rp_put (c := 10) (by decide) hI2 (fun iv3 sh3 hI3 hQ3 z e => ?_)
          rw [e, nI_1]
          refine ih (i + 1) iv3 sh3 gd2 nv2 _ (by omega) hI3 (rp_QT hQ2 hQ3) hn2 ?_
          rw [List.append_assoc]; exact hW
        | succ v ihv =>
          intro j iv2 sh2 gd2 nv2 W hj hI2 hQ2 hn2 hW
          have hfe : x_fa (x_shc p piv K i) (v + 1) j = x_shc p piv K i j ++ x_fa (x_shc p piv K i) v (j + 1) := rfl
          rw [hfe] at hW
          have next : ∀ (iv3 sh3 gd3 : Nat → Int32) (nv3 : Nat → px_NV) (W2 : List Nat) (z2 : Int32), rp_I iv3 sh3 W2 → rp_Q iv iv3 → (∀ q, q < 156 → nv3 q = nv q) → W2 ++ (x_fa (x_shc p piv K i) v (j + 1) ++ [10] ++ x_fa (x_shr p n piv K) u (i + 1)) = U ++ x_fa (x_shr p n piv K) r 0 → w108_L212 (w108_L2 post (u + 1)) (w108_L22 (w108_L2 post (u + 1)) post (v + 1)) post (nI m) (nI i) (nI (piv i)) (nI j) z2 iv3 ge gf gr gk gq sh3 gd3 nv3 := fun iv3 sh3 gd3 nv3 W2 z2 hI3 hQ3 hn3 hW2 => by
            unfold w108_L212
            intro z1 e1
            rw [e1, nI_1]
            exact ihv (j + 1) iv3 sh3 gd3 nv3 W2 (by omega) hI3 hQ3 hn3 hW2
          have cell : ∀ (iv3 sh3 : Nat → Int32) (W2 : List Nat), rp_I iv3 sh3 W2 → rp_Q iv iv3 → W2 ++ ((if p = 0 then x_rt0 false (K i j) (K i (piv i)) else x_dg (K i j).toNat) ++ (x_fa (x_shc p piv K i) v (j + 1) ++ [10] ++ x_fa (x_shr p n piv K) u (i + 1))) = U ++ x_fa (x_shr p n piv K) r 0 → w108_L44 (w108_L2 post (u + 1)) (w108_L22 (w108_L2 post (u + 1)) post (v + 1)) post (nI m) (nI i) (nI (piv i)) (nI j) iv3 ge gf gr gk gq sh3 gd2 nv2 := fun iv3 sh3 W2 hI3 hQ3 hW2 => by
            have k1 := l8 i (by omega) j (by omega)
            have k2 := l8 i (by omega) (piv i) hpi.1
            unfold w108_L44
            rw [b_at3, b_at3, b_at24, nI_clamp (show m < 2 ^ 31 by omega), l4]
            intro z2 e2
            rw [e2, b_at24, nI_clamp (show 144 * m + 12 * i + j < 2 ^ 31 by omega)]
            refine ⟨inm, fun w => ?_, fun w => ?_⟩
            · have p0 : p = 0 := Classical.byContradiction (fun q => absurd w (show ¬ nI p ≤ nI 0 from nI_ge (by omega) (by omega)))
              unfold r_ke at k1 k2
              rw [if_pos p0] at k1 k2 hW2
              have b1 := (l7.2.2.2.2.2.2.2.1 p0 i (by omega)).2 j (by omega)
              have b2 := (l7.2.2.2.2.2.2.2.1 p0 i (by omega)).2 _ hpi.1
              rw [x_rtz hpi.2] at hW2
              generalize hA : K i j = A at *
              generalize hd : K i (piv i) = d at *
              have hg0 : 0 < Nat.gcd A.natAbs d.natAbs := Nat.gcd_pos_of_pos_right _ (by omega)
              have hgl : Nat.gcd A.natAbs d.natAbs ≤ d.natAbs := Nat.gcd_le_right _ (by omega)
              refine r_fetch (by decide) (by omega) k1 (fun nv3 n3 r3 => ?_)
              refine r_fetch (by decide) (by omega) k2 (fun nv4 n4 r4 => ?_)
              refine r_divisor (by decide) (by decide) (by decide) (by decide) (by decide) (by rw [n4 197 (by decide)]; exact r3) r4 (Nat.lt_of_le_of_lt b2 h159) (fun nv5 n5 r5 => ?_)
              refine pn_cpP (by decide) (by decide) (by decide) r5 (fun nv6 n6 r6 => ?_)
              refine pn_quP (by decide) (by decide) (by decide) (by decide) (by decide) (by decide) (by decide) (by decide) (by decide) (by decide) (by rw [n6 197 (by decide), n5 197 (by decide) (by decide) (by decide) (by decide), n4 197 (by decide)]; exact r3) r6 (by rw [Int.natAbs_natCast]; exact Nat.lt_of_le_of_lt (Nat.le_trans hgl b2) h159) (by omega) (fun nv7 n7 r7 _ => ?_)
              refine rp_num (a := 192) (by decide) r7 (by rw [Int.natAbs_tdiv, Int.natAbs_natCast]; exact Nat.lt_of_le_of_lt (Nat.le_trans (Nat.div_le_self _ _) b1) h142) hI3 (fun iv8 sh8 gd8 nv8 hI8 hQ8 n8 => ?_)
              have r8 : pn_N (nv8 198) d := by
                rw [n8 198 (by decide), n7 198 (by decide) (by decide), n6 198 (by decide), n5 198 (by decide) (by decide) (by decide) (by decide)]; exact r4
              have r8' : pn_N (nv8 199) ((Nat.gcd A.natAbs d.natAbs : Nat) : Int) := by rw [n8 199 (by decide), n7 199 (by decide) (by decide)]; exact r6
              refine pn_quP (by decide) (by decide) (by decide) (by decide) (by decide) (by decide) (by decide) (by decide) (by decide) (by decide) r8 r8' (by rw [Int.natAbs_natCast]; exact Nat.lt_of_le_of_lt (Nat.le_trans hgl b2) h159) (by omega) (fun nv9 n9 r9 _ => ?_)
              have ed : d.tdiv (Nat.gcd A.natAbs d.natAbs : Nat) = ((d.natAbs / Nat.gcd A.natAbs d.natAbs : Nat) : Int) := by
                rw [Int.tdiv_eq_ediv_of_nonneg (by omega), Int.natCast_ediv, Int.natAbs_of_nonneg (by omega)]
              rw [ed] at r9
              have n156 : ∀ q, q < 156 → nv9 q = nv q := fun q hq => by
                rw [n9 q (by omega) (by omega), n8 q (by omega), n7 q (by omega) (by omega), n6 q (by omega), n5 q (by omega) (by omega) (by omega) (by omega), n4 q (by omega), n3 q (by omega)]
                exact hn2 q hq
              refine ⟨⟨by simp, fun q hq => by rw [List.mem_singleton.mp hq]; decide⟩, pn_isOne r9 (fun nv10 e10 => ?_)⟩
              have e11 : nv10 = nv9 := by
                rw [e10]
                funext q
                show va_up nv9 192 _ q = nv9 q
                by_cases w2 : q = 192
                · rw [w2, va_up_self]
                · rw [va_up_ne _ _ w2]
              rw [e11]
              refine ⟨fun w1 => ?_, fun w1 => ?_⟩
              · have h1 : d.natAbs / Nat.gcd A.natAbs d.natAbs = 1 := Classical.byContradiction (fun q => w1 (if_neg q))
                rw [if_pos h1, List.append_nil] at hW2
                refine next iv8 sh8 gd8 nv9 _ _ hI8 (rp_QT hQ3 hQ8) n156 ?_
                rw [List.append_assoc]; exact hW2
              · have h1 : ¬ d.natAbs / Nat.gcd A.natAbs d.natAbs = 1 := fun q => by rw [if_pos q] at w1; exact t_10 w1
                rw [if_neg h1] at hW2
                refine rp_put (c := 47) (by decide) hI8 (fun iv12 sh12 hI12 hQ12 => ?_)
                refine rp_num (a := 192) (by decide) r9 (by rw [Int.natAbs_natCast]; exact Nat.lt_of_le_of_lt (Nat.le_trans (Nat.div_le_self _ _) b2) h142) hI12 (fun iv13 sh13 gd13 nv13 hI13 hQ13 n13 => ?_)
                refine next iv13 sh13 gd13 nv13 _ _ hI13 (rp_QT (rp_QT (rp_QT hQ3 hQ8) hQ12) hQ13) (fun q hq => by rw [n13 q (by omega)]; exact n156 q hq) ?_
                simp only [List.append_assoc] at hW2 ⊢
                exact hW2
            · have p0 : p ≠ 0 := fun q => w (by rw [q]; exact Int32.le_refl 0)
              unfold r_ke at k1
              rw [if_neg p0] at k1 hW2
              rw [k1.1, nL_of (show (K i j).toNat < 2 ^ 31 by omega)]
              refine ⟨b_in (by omega) (by omega), rp_long (by omega) hI3 (fun iv4 sh4 hI4 hQ4 => next iv4 sh4 gd2 nv2 _ _ hI4 (rp_QT hQ3 hQ4) hn2 ?_)⟩
              rw [List.append_assoc]; exact hW2
          unfold w108_L22
          rw [nI_clamp (show m < 2 ^ 31 by omega), l3]
          refine ⟨inm, fun w => absurd w (nI_ge (by omega) (by omega)), fun _ => ⟨fun w => ?_, fun w => ?_⟩⟩
          · have hj0 : j = 0 := Classical.byContradiction (fun q => absurd w (show ¬ nI j ≤ nI 0 from nI_ge (by omega) (by omega)))
            have e6 : x_shc p piv K i j = (if p = 0 then x_rt0 false (K i j) (K i (piv i)) else x_dg (K i j).toNat) := by unfold x_shc; rw [if_pos hj0, List.nil_append]
            rw [e6] at hW
            refine cell iv2 sh2 W hI2 hQ2 ?_
            simp only [List.append_assoc] at hW ⊢
            exact hW
          · have hj0 : ¬ j = 0 := fun q => w (by rw [q]; exact Int32.le_refl 0)
            have e6 : x_shc p piv K i j = [32] ++ (if p = 0 then x_rt0 false (K i j) (K i (piv i)) else x_dg (K i j).toNat) := by unfold x_shc; rw [if_neg hj0]
            rw [e6] at hW
            refine rp_put (c := 32) (by decide) hI2 (fun iv3 sh3 hI3 hQ3 => cell iv3 sh3 _ hI3 (rp_QT hQ2 hQ3) ?_)
            simp only [List.append_assoc] at hW ⊢
            exact hW
      refine cells n 0 iv1 sh1 gd1 nv1 V (by omega) hI1 hQ1 hn1 ?_
      have e7 : x_shr p n piv K i = x_fa (x_shc p piv K i) n 0 ++ [10] := rfl
      rw [e7] at hV
      exact hV
  exact ⟨r + 1, rows r 0 iv sh gd nv U (by omega) hI rp_QR (fun _ _ => rfl) rfl⟩
end RSW
