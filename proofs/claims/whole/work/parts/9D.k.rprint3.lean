/-! PURE, the reference: minors and polynomials printed -/
section RP3
variable {iv sh ge gr gR go gz gi gx : Nat → Int32} {U : List Nat} {m n r : Nat} {b : Nat → Bool}
theorem rp_power {post : (Nat → Int32) → (Nat → Int32) → Prop} {c e : Nat} (hc : c < 128) (he : e < 2 ^ 31) (he0 : 0 < e) (hI : rp_I iv sh U) (h : ∀ iv' sh', rp_I iv' sh' (U ++ x_pow c e) → rp_Q iv iv' → post iv' sh') : w109_wp post (nI c) (nI e) iv sh := by
  have hp : x_pow c e = [c] ++ (if e = 1 then [] else [94] ++ x_dg e) := by unfold x_pow; rw [if_neg (by omega)]
  rw [hp] at h
  unfold w109_wp w109_L22
  refine rp_put hc hI (fun iv1 sh1 hI1 hQ1 => ⟨fun w => ?_, fun w => ?_⟩)
  · have he1 : e = 1 := Classical.byContradiction (fun q => absurd w (show ¬ nI e ≤ nI 1 from nI_ge (by omega) he))
    refine h iv1 sh1 ?_ hQ1
    rw [if_pos he1, List.append_nil]; exact hI1
  · have he1 : ¬ e = 1 := fun q => w (by rw [q]; exact Int32.le_refl 1)
    rw [nL_of he]
    refine rp_put (c := 94) (by decide) hI1 (fun iv2 sh2 hI2 hQ2 => ?_)
    refine rp_long he hI2 (fun iv3 sh3 hI3 hQ3 => h iv3 sh3 ?_ (rp_QT (rp_QT hQ1 hQ2) hQ3))
    rw [if_neg he1, ← List.append_assoc, ← List.append_assoc]; exact hI3
/-- the images in a row -/
def x_img3 (f : Nat → Nat) (e : Nat) : List Nat := (if e = 0 then [] else [32]) ++ x_dg (f e)
theorem rp_minor {post : (Nat → Int32) → (Nat → Int32) → (Nat → Int32) → (Nat → Int32) → (Nat → Int32) → (Nat → Int32) → (Nat → Int32) → (Nat → Int32) → (Nat → Int32) → Prop} {m2 g r2 : Nat} {b' : Nat → Bool} (hD : r_D ge gr gR m n r b) (hD2 : r_D ge gr gR m2 g r2 b') (hT : r_T go gz) (hI : rp_I iv sh U)
    (h1 : ∀ K c f iv' gi' gx' sh', w_1st b b' n g K c f → rp_I iv' sh' (U ++ (x_set c ++ (x_set (x_co n (K ||| c)) ++ (x_fa (x_img3 f) g 0 ++ [10])))) → (∀ q, q ≠ 43 → q ≠ 47 → q ≠ 32 → q ≠ 33 → iv' q = iv q) → post iv' ge gr gR go gz gi' gx' sh')
    (h0 : (¬ ∃ K c f, w_E b b' n g K c f) → ∀ iv' gi' gx' sh', rp_I iv' sh' (U ++ [110, 111, 10]) → (∀ q, q ≠ 43 → q ≠ 47 → q ≠ 32 → q ≠ 33 → iv' q = iv q) → post iv' ge gr gR go gz gi' gx' sh') : w115_wp post (nI m) (nI m2) iv ge gr gR go gz gi gx sh := by
  have hn := (r_Dn hD).1
  have hn2 := (r_Dn hD2).1
  have hm2 := hD2.1
  have hp12 : 2 ^ n ≤ 4096 := by
    have : 2 ^ n ≤ 2 ^ 12 := Nat.pow_le_pow_right (by decide) hn
    exact this
  have inm : vp_in (nI m2) 26 := b_in hm2 (by omega)
  unfold w115_wp
  refine r_isMinor hD hD2 hT (fun K c f gi' gx' hw hgi => ⟨fun _ => ?_, fun w => t_10 w⟩) (fun hno gi' gx' => ⟨fun w => absurd rfl w, fun _ => ?_⟩)
  · obtain ⟨e1, e2, e3, e4, e5, e6, e7⟩ := hw.1
    have i32 : va_up (va_up iv 33 (nI K)) 32 (nI c) 32 = nI c := va_up_self _ _ _
    have i33 : va_up (va_up iv 33 (nI K)) 32 (nI c) 33 = nI K := by rw [va_up_ne _ _ (by decide), va_up_self]
    have iq : ∀ q, q ≠ 32 → q ≠ 33 → va_up (va_up iv 33 (nI K)) 32 (nI c) q = iv q := fun q q1 q2 => by rw [va_up_ne _ _ q1, va_up_ne _ _ q2]
    generalize va_up (va_up iv 33 (nI K)) 32 (nI c) = iv1 at *
    have hI1 : rp_I iv1 sh U := ⟨by rw [iq 47 (by decide) (by decide)]; exact hI.1, by rw [iq 43 (by decide) (by decide)]; exact hI.2.1, hI.2.2⟩
    rw [i32]
    refine rp_set (by omega) hI1 (fun iv2 sh2 hI2 hQ2 => r_whole hD ?_)
    have ed : (nI (2 ^ n - 1) &&& (iv2 32 ^^^ (-1))) &&& (iv2 33 ^^^ (-1)) = nI (x_co n (K ||| c)) := by
      rw [hQ2 32 (by decide) (by decide), hQ2 33 (by decide) (by decide), i32, i33, b_coS hn e3, b_nand (Nat.lt_of_lt_of_le (x_col e3) (by omega)) (by omega)]
      congr 1
      have hKc : K ||| c < 2 ^ n := Nat.or_lt_two_pow e1 e3
      have h12 : ∀ {x : Nat}, x < 2 ^ n → x < 2 ^ 12 := fun hx => Nat.lt_of_lt_of_le hx (Nat.pow_le_pow_right (by decide) hn)
      refine x_ext (Nat.xor_lt_two_pow (h12 (x_col e3)) (Nat.lt_of_le_of_lt Nat.and_le_left (h12 (x_col e3)))) (h12 (x_col hKc)) (fun j hj => ?_)
      rw [Nat.testBit_xor, Nat.testBit_and]
      by_cases q : j < n
      · rw [x_cob q, x_cob q, Nat.testBit_or]
        cases K.testBit j <;> cases c.testBit j <;> rfl
      · rw [x_hi (x_col e3) (by omega), x_hi (x_col hKc) (by omega)]; rfl
    rw [ed]
    have hco : x_co n (K ||| c) < 2 ^ 31 := Nat.lt_of_lt_of_le (x_col (Nat.or_lt_two_pow e1 e3)) (by omega)
    refine rp_set hco hI2 (fun iv3 sh3 hI3 hQ3 => ⟨g + 1, ?_⟩)
    have loop : ∀ (u e : Nat) (iv4 sh4 : Nat → Int32) (V : List Nat), e + u = g → rp_I iv4 sh4 V → rp_Q iv1 iv4 → V ++ (x_fa (x_img3 f) u e ++ [10]) = U ++ (x_set c ++ (x_set (x_co n (K ||| c)) ++ (x_fa (x_img3 f) g 0 ++ [10]))) → w115_L61 post (u + 1) (nI m) (nI m2) (nI e) iv4 ge gr gR go gz gi' gx' sh4 := by
      intro u
      induction u with
      | zero =>
        intro e iv4 sh4 V he hI4 hQ4 hV
        have : e = g := by omega
        subst this
        unfold w115_L61
        rw [nI_clamp (show m2 < 2 ^ 31 by omega), hD2.2.1]
        refine ⟨inm, fun _ => ?_, fun w => absurd (nI_le (Nat.le_refl e) (by omega)) w⟩
        refine rp_put (c := 10) (by decide) hI4 (fun iv5 sh5 hI5 hQ5 => h1 K c f iv5 gi' gx' sh5 hw ?_ (fun q q1 q2 q3 q4 => by rw [hQ5 q q1 q2, hQ4 q q1 q2]; exact iq q q3 q4))
        rw [← hV]; exact hI5
      | succ u ih =>
        intro e iv4 sh4 V he hI4 hQ4 hV
        have hfe : x_fa (x_img3 f) (u + 1) e = x_img3 f e ++ x_fa (x_img3 f) u (e + 1) := rfl
        rw [hfe] at hV
        have num : ∀ (iv5 sh5 : Nat → Int32) (W : List Nat), rp_I iv5 sh5 W → rp_Q iv1 iv5 → W ++ (x_dg (f e) ++ x_fa (x_img3 f) u (e + 1) ++ [10]) = U ++ (x_set c ++ (x_set (x_co n (K ||| c)) ++ (x_fa (x_img3 f) g 0 ++ [10]))) → w115_L81 (w115_L61 post (u + 1)) post (nI m) (nI m2) (nI e) iv5 ge gr gR go gz gi' gx' sh5 := fun iv5 sh5 W hI5 hQ5 hW => by
          unfold w115_L81
          rw [nI_clamp (show e < 2 ^ 31 by omega), hgi e (by omega)]
          have hfl := (e5 e (by omega)).1
          rw [nL_of (show f e < 2 ^ 31 by omega)]
          refine ⟨b_in (by omega) (by omega), rp_long (by omega) hI5 (fun iv6 sh6 hI6 hQ6 z3 e3' => ?_)⟩
          rw [e3', nI_1]
          refine ih (e + 1) iv6 sh6 _ (by omega) hI6 (rp_QT hQ5 hQ6) ?_
          rw [List.append_assoc]
          simp only [List.append_assoc] at hW ⊢
          exact hW
        unfold w115_L61
        rw [nI_clamp (show m2 < 2 ^ 31 by omega), hD2.2.1]
        refine ⟨inm, fun w => absurd w (nI_ge (by omega) (by omega)), fun _ => ⟨fun w => ?_, fun w => ?_⟩⟩
        · have he0 : e = 0 := Classical.byContradiction (fun q => absurd w (show ¬ nI e ≤ nI 0 from nI_ge (by omega) (by omega)))
          refine num iv4 sh4 V hI4 hQ4 ?_
          have e6' : x_img3 f e = x_dg (f e) := by unfold x_img3; rw [if_pos he0]; rfl
          rw [e6'] at hV; exact hV
        · have he0 : ¬ e = 0 := fun q => w (by rw [q]; exact Int32.le_refl 0)
          refine rp_put (c := 32) (by decide) hI4 (fun iv5 sh5 hI5 hQ5 => num iv5 sh5 _ hI5 (rp_QT hQ4 hQ5) ?_)
          have e6' : x_img3 f e = [32] ++ x_dg (f e) := by unfold x_img3; rw [if_neg he0]
          rw [e6'] at hV
          simp only [List.append_assoc] at hV ⊢
          exact hV
    refine loop g 0 iv3 sh3 _ (by omega) hI3 (rp_QT hQ2 hQ3) ?_
    simp only [List.append_assoc]
  · refine rp_put (c := 110) (by decide) hI (fun iv1 sh1 hI1 hQ1 => ?_)
    refine rp_put (c := 111) (by decide) hI1 (fun iv2 sh2 hI2 hQ2 => ?_)
    refine rp_put (c := 10) (by decide) hI2 (fun iv3 sh3 hI3 hQ3 => h0 hno iv3 gi' gx' sh3 ?_ (fun q q1 q2 _ _ => by rw [hQ3 q q1 q2, hQ2 q q1 q2, hQ1 q q1 q2]))
    simp only [List.append_assoc] at hI3
    exact hI3
/-- the polynomial, as it is written: the places below q -/
def x_tuW (c : Nat → Nat → Nat) : Nat → Bool → List Nat
  | 0, _ => []
  | q + 1, f => if c (q / 13) (q % 13) = 0 then x_tuW c q f else (if f = true then [] else [32, 43, 32]) ++ (x_term (c (q / 13) (q % 13)) (q / 13) (q % 13) ++ x_tuW c q false)
theorem rp_tutte {post : (Nat → Int32) → (Nat → Int32) → (Nat → Int32) → (Nat → Int32) → (Nat → Int32) → (Nat → Int64) → (Nat → Int64) → (Nat → Int32) → Prop} {gc gh : Nat → Int64} {c : Nat → Nat → Nat} (hD : r_D ge gr gR m n r b) (hT : r_T go gz) (hc : ∀ i j, i < 13 → j < 13 → x_T Int64 b n r i j = nL (c i j) ∧ c i j < 2 ^ 31) (hI : rp_I iv sh U) (h : ∀ iv' gc' gh' sh', rp_I iv' sh' (U ++ (x_tuW c 169 true ++ [10])) → rp_Q iv iv' → post iv' ge gr gR gz gc' gh' sh') : w110_wp post (nI m) iv ge gr gR gz gc gh sh := by
  unfold w110_wp
  refine r_poly hD hT (fun gc' gh' hgc => ⟨14, ?_⟩)
  have one : ∀ v, v < 2 ^ 31 → (lg_cmp (nL v) 1 = 0 ↔ v = 1) := fun v hv => nL_eq (b := 1) (by omega) (by decide)
  have zero : ∀ v, v < 2 ^ 31 → (lg_cmp (nL v) 0 = 0 ↔ v = 0) := fun v hv => nL_eq (b := 0) (by omega) (by decide)
  have rows : ∀ (k : Nat) (f : Bool) (iv1 sh1 : Nat → Int32) (V : List Nat), k ≤ 13 → rp_I iv1 sh1 V → rp_Q iv iv1 → V ++ (x_tuW c (13 * k) f ++ [10]) = U ++ (x_tuW c 169 true ++ [10]) → w110_L10 post (k + 1) (nI m) (if f = true then 1 else 0) (nI k + (-1)) iv1 ge gr gR gz gc' gh' sh1 := by
    intro k
    induction k with
    | zero =>
      intro f iv1 sh1 V hk hI1 hQ1 hV
      refine ⟨fun _ => ?_, fun w => absurd (show nI 0 + (-1) < 0 by decide) w⟩
      refine rp_put (c := 10) (by decide) hI1 (fun iv2 sh2 hI2 hQ2 => h iv2 gc' gh' sh2 ?_ (rp_QT hQ1 hQ2))
      rw [← hV]; exact hI2
    | succ k ih =>
      intro f iv1 sh1 V hk hI1 hQ1 hV
      have ek : nI (k + 1) + (-1) = nI k := by
        have key : ∀ k, k < 14 → nI (k + 1) + (-1) = nI k := by decide +kernel
        exact key k (by omega)
      rw [ek]
      refine ⟨fun w => absurd w (show ¬ nI k < nI 0 from fun z => absurd (nI_le (Nat.zero_le k) (by omega)) (Int32.not_le.2 z)), fun _ => ⟨14, ?_⟩⟩
      have cols : ∀ (j : Nat) (f : Bool) (iv2 sh2 : Nat → Int32) (V : List Nat), j ≤ 13 → rp_I iv2 sh2 V → rp_Q iv iv2 → V ++ (x_tuW c (13 * k + j) f ++ [10]) = U ++ (x_tuW c 169 true ++ [10]) → w110_L18 (w110_L10 post (k + 1)) post (j + 1) (nI m) (if f = true then 1 else 0) (nI k) (nI j + (-1)) iv2 ge gr gR gz gc' gh' sh2 := by
        intro j
        induction j with
        | zero =>
          intro f iv2 sh2 V hj hI2 hQ2 hV
          refine ⟨fun _ z12 e12 => ?_, fun w => absurd (show nI 0 + (-1) < 0 by decide) w⟩
          rw [e12]
          exact ih f iv2 sh2 V (by omega) hI2 hQ2 hV
        | succ j ihj =>
          intro f iv2 sh2 V hj hI2 hQ2 hV
          have ej : nI (j + 1) + (-1) = nI j := by
            have key : ∀ k, k < 14 → nI (k + 1) + (-1) = nI k := by decide +kernel
            exact key j (by omega)
          rw [ej]
          have hq : (13 * k + j) / 13 = k ∧ (13 * k + j) % 13 = j := by omega
          have htu : x_tuW c (13 * k + j + 1) f = if c k j = 0 then x_tuW c (13 * k + j) f else (if f = true then [] else [32, 43, 32]) ++ (x_term (c k j) k j ++ x_tuW c (13 * k + j) false) := by
            show (if c ((13 * k + j) / 13) ((13 * k + j) % 13) = 0 then x_tuW c (13 * k + j) f else (if f = true then [] else [32, 43, 32]) ++ (x_term (c ((13 * k + j) / 13) ((13 * k + j) % 13)) ((13 * k + j) / 13) ((13 * k + j) % 13) ++ x_tuW c (13 * k + j) false)) = _
            rw [hq.1, hq.2]
          rw [show 13 * k + (j + 1) = 13 * k + j + 1 by omega, htu] at hV
          obtain ⟨hv1, hv2⟩ := hc k j (by omega) (by omega)
          have ix : (13 : Int32) * nI k + nI j = nI (13 * k + j) := by rw [show (13 : Int32) = nI 13 from rfl, pk_mul, nI_add]
          generalize c k j = v at *
          -- after the term
          have next : ∀ (iv3 sh3 : Nat → Int32) (W : List Nat) (x2 : Int32) (f' : Bool), x2 = (if f' = true then 1 else 0) → rp_I iv3 sh3 W → rp_Q iv iv3 → W ++ (x_tuW c (13 * k + j) f' ++ [10]) = U ++ (x_tuW c 169 true ++ [10]) → w110_L157 (w110_L10 post (k + 1)) (w110_L18 (w110_L10 post (k + 1)) post (j + 1)) post (nI m) x2 (nI k) (nI j) (nL v) iv3 ge gr gR gz gc' gh' sh3 := fun iv3 sh3 W x2 f' ex hI3 hQ3 hW => by
            unfold w110_L157
            intro z1 e1
            rw [e1, ex]
            exact ihj f' iv3 sh3 W (by omega) hI3 hQ3 hW
          -- the y part
          have ypart : ∀ (iv3 sh3 : Nat → Int32) (W : List Nat) (x7 : Int32), rp_I iv3 sh3 W → rp_Q iv iv3 → W ++ ((if 0 < j then (if ¬ v = 1 ∨ 0 < k then [32] else []) ++ x_pow 121 j else []) ++ (x_tuW c (13 * k + j) false ++ [10])) = U ++ (x_tuW c 169 true ++ [10]) → w110_L127 (w110_L10 post (k + 1)) (w110_L18 (w110_L10 post (k + 1)) post (j + 1)) post (nI m) 0 (nI k) (nI j) (nL v) x7 iv3 ge gr gR gz gc' gh' sh3 := fun iv3 sh3 W x7 hI3 hQ3 hW => by
            have pw : ∀ (iv4 sh4 : Nat → Int32) (W2 : List Nat), 0 < j → rp_I iv4 sh4 W2 → rp_Q iv iv4 → W2 ++ (x_pow 121 j ++ (x_tuW c (13 * k + j) false ++ [10])) = U ++ (x_tuW c 169 true ++ [10]) → w110_L149 (w110_L10 post (k + 1)) (w110_L18 (w110_L10 post (k + 1)) post (j + 1)) post (nI m) 0 (nI k) (nI j) (nL v) x7 iv4 ge gr gR gz gc' gh' sh4 := fun iv4 sh4 W2 hj0 hI4 hQ4 hW2 => by
              unfold w110_L149
              refine rp_power (c := 121) (by decide) (by omega) hj0 hI4 (fun iv5 sh5 hI5 hQ5 => next iv5 sh5 _ 0 false rfl hI5 (rp_QT hQ4 hQ5) ?_)
              rw [List.append_assoc]; exact hW2
            have sp : 0 < j → (¬ v = 1 ∨ 0 < k) → w110_L143 (w110_L10 post (k + 1)) (w110_L18 (w110_L10 post (k + 1)) post (j + 1)) post (nI m) 0 (nI k) (nI j) (nL v) x7 iv3 ge gr gR gz gc' gh' sh3 := fun hj0 hor => by
              unfold w110_L143
              refine rp_put (c := 32) (by decide) hI3 (fun iv4 sh4 hI4 hQ4 => pw iv4 sh4 _ hj0 hI4 (rp_QT hQ3 hQ4) ?_)
              rw [if_pos hj0, if_pos hor] at hW
              simp only [List.append_assoc] at hW ⊢
              exact hW
            unfold w110_L127
            refine ⟨fun w => ?_, fun w => ⟨fun w1 => ?_, fun w1 => ⟨fun w2 => ?_, fun w2 => ?_⟩⟩⟩
            · have hj0 : ¬ 0 < j := fun q => absurd w (show ¬ nI j ≤ nI 0 from nI_ge q (by omega))
              rw [if_neg hj0, List.nil_append] at hW
              exact next iv3 sh3 W 0 false rfl hI3 hQ3 hW
            · have hj0 : 0 < j := Classical.byContradiction (fun q => w (show nI j ≤ nI 0 from nI_le (by omega) (by omega)))
              exact sp hj0 (Or.inl (fun q => w1 ((one v hv2).2 q)))
            · have hj0 : 0 < j := Classical.byContradiction (fun q => w (show nI j ≤ nI 0 from nI_le (by omega) (by omega)))
              have hv : v = 1 := (one v hv2).1 w1
              have hk0 : ¬ 0 < k := fun q => absurd w2 (show ¬ nI k ≤ nI 0 from nI_ge q (by omega))
              rw [if_pos hj0, if_neg (by omega), List.nil_append] at hW
              exact pw iv3 sh3 W hj0 hI3 hQ3 hW
            · have hj0 : 0 < j := Classical.byContradiction (fun q => w (show nI j ≤ nI 0 from nI_le (by omega) (by omega)))
              have hk0 : 0 < k := Classical.byContradiction (fun q => w2 (show nI k ≤ nI 0 from nI_le (by omega) (by omega)))
              exact sp hj0 (Or.inr hk0)
          -- the x part
          have xpart : ∀ (iv3 sh3 : Nat → Int32) (W : List Nat) (x7 : Int32), rp_I iv3 sh3 W → rp_Q iv iv3 → W ++ ((if 0 < k then (if ¬ v = 1 then [32] else []) ++ x_pow 120 k else []) ++ ((if 0 < j then (if ¬ v = 1 ∨ 0 < k then [32] else []) ++ x_pow 121 j else []) ++ (x_tuW c (13 * k + j) false ++ [10]))) = U ++ (x_tuW c 169 true ++ [10]) → w110_L103 (w110_L10 post (k + 1)) (w110_L18 (w110_L10 post (k + 1)) post (j + 1)) post (nI m) 0 (nI k) (nI j) (nL v) x7 iv3 ge gr gR gz gc' gh' sh3 := fun iv3 sh3 W x7 hI3 hQ3 hW => by
            have pw : ∀ (iv4 sh4 : Nat → Int32) (W2 : List Nat), 0 < k → rp_I iv4 sh4 W2 → rp_Q iv iv4 → W2 ++ (x_pow 120 k ++ ((if 0 < j then (if ¬ v = 1 ∨ 0 < k then [32] else []) ++ x_pow 121 j else []) ++ (x_tuW c (13 * k + j) false ++ [10]))) = U ++ (x_tuW c 169 true ++ [10]) → w110_L120 (w110_L10 post (k + 1)) (w110_L18 (w110_L10 post (k + 1)) post (j + 1)) post (nI m) 0 (nI k) (nI j) (nL v) x7 iv4 ge gr gR gz gc' gh' sh4 := fun iv4 sh4 W2 hk0 hI4 hQ4 hW2 => by
              unfold w110_L120
              refine rp_power (c := 120) (by decide) (by omega) hk0 hI4 (fun iv5 sh5 hI5 hQ5 => ypart iv5 sh5 _ x7 hI5 (rp_QT hQ4 hQ5) ?_)
              rw [List.append_assoc]; exact hW2
            unfold w110_L103
            refine ⟨fun w => ?_, fun w => ⟨fun w1 => ?_, fun w1 => ?_⟩⟩
            · have hk0 : ¬ 0 < k := fun q => absurd w (show ¬ nI k ≤ nI 0 from nI_ge q (by omega))
              rw [if_neg hk0, List.nil_append] at hW
              exact ypart iv3 sh3 W x7 hI3 hQ3 hW
            · have hk0 : 0 < k := Classical.byContradiction (fun q => w (show nI k ≤ nI 0 from nI_le (by omega) (by omega)))
              have hv : v = 1 := (one v hv2).1 w1
              rw [if_pos hk0, if_neg (fun q => q hv), List.nil_append] at hW
              exact pw iv3 sh3 W hk0 hI3 hQ3 hW
            · have hk0 : 0 < k := Classical.byContradiction (fun q => w (show nI k ≤ nI 0 from nI_le (by omega) (by omega)))
              have hv : ¬ v = 1 := fun q => w1 ((one v hv2).2 q)
              refine rp_put (c := 32) (by decide) hI3 (fun iv4 sh4 hI4 hQ4 => pw iv4 sh4 _ hk0 hI4 (rp_QT hQ3 hQ4) ?_)
              rw [if_pos hk0, if_pos hv] at hW
              simp only [List.append_assoc] at hW ⊢
              exact hW
          -- the whole term
          have eterm : x_term v k j = (if k + j = 0 ∨ ¬ v = 1 then x_dg v else []) ++ ((if 0 < k then (if ¬ v = 1 then [32] else []) ++ x_pow 120 k else []) ++ (if 0 < j then (if ¬ v = 1 ∨ 0 < k then [32] else []) ++ x_pow 121 j else [])) := by
            have p0 : ∀ ch, x_pow ch 0 = [] := fun ch => rfl
            have c1 := x_st123.1
            have c2 := x_st123.2.1
            unfold x_term
            by_cases a1 : k = 0
            · subst a1
              by_cases a2 : j = 0
              · subst a2
                rw [if_pos (Or.inr ⟨rfl, rfl⟩), if_pos ⟨rfl, rfl⟩, if_pos (Or.inl rfl), if_neg (Nat.lt_irrefl 0), if_neg (by omega), p0, p0, c1]
                simp
              · rw [p0, if_neg (show ¬ (0 < 0) by decide), if_neg (show ¬ (0 < 0 ∧ 0 < j) by omega), c1, if_pos (show 0 < j by omega)]
                by_cases a3 : v = 1
                · rw [if_neg (by omega), if_neg (by omega), if_neg (by omega)]
                  try simp
                · rw [if_pos (Or.inl a3), if_neg (show ¬ (0 = 0 ∧ j = 0) by omega), c2, if_pos (Or.inr a3), if_pos (Or.inl a3)]; simp
            · rw [if_pos (show 0 < k by omega)]
              by_cases a2 : j = 0
              · subst a2
                rw [p0, if_neg (show ¬ (0 < k ∧ 0 < 0) by omega), c1, if_neg (show ¬ (0 < 0) by decide)]
                by_cases a3 : v = 1
                · rw [if_neg (by omega), if_neg (by omega), if_neg (fun q => q a3)]; simp
                · rw [if_pos (Or.inl a3), if_neg (show ¬ (k = 0 ∧ 0 = 0) by omega), c2, if_pos (Or.inr a3), if_pos a3]; simp
              · rw [if_pos (show 0 < k ∧ 0 < j by omega), c2, if_pos (show 0 < j by omega), if_pos (show ¬ v = 1 ∨ 0 < k by omega)]
                by_cases a3 : v = 1
                · rw [if_neg (by omega), if_neg (by omega), if_neg (fun q => q a3)]; simp
                · rw [if_pos (Or.inl a3), if_neg (show ¬ (k = 0 ∧ j = 0) by omega), if_pos (Or.inr a3), if_pos a3, c2]; simp
          have term : ∀ (iv3 sh3 : Nat → Int32) (W : List Nat) (x2 : Int32), rp_I iv3 sh3 W → rp_Q iv iv3 → W ++ (x_term v k j ++ (x_tuW c (13 * k + j) false ++ [10])) = U ++ (x_tuW c 169 true ++ [10]) → w110_L69 (w110_L10 post (k + 1)) (w110_L18 (w110_L10 post (k + 1)) post (j + 1)) post (nI m) x2 (nI k) (nI j) (nL v) iv3 ge gr gR gz gc' gh' sh3 := fun iv3 sh3 W x2 hI3 hQ3 hW => by
            rw [eterm] at hW
            have dg : ∀ x7 : Int32, (k + j = 0 ∨ ¬ v = 1) → w110_L97 (w110_L10 post (k + 1)) (w110_L18 (w110_L10 post (k + 1)) post (j + 1)) post (nI m) 0 (nI k) (nI j) (nL v) x7 iv3 ge gr gR gz gc' gh' sh3 := fun x7 hor => by
              unfold w110_L97
              refine rp_long hv2 hI3 (fun iv4 sh4 hI4 hQ4 => xpart iv4 sh4 _ x7 hI4 (rp_QT hQ3 hQ4) ?_)
              rw [if_pos hor] at hW
              simp only [List.append_assoc] at hW ⊢
              exact hW
            unfold w110_L69 w110_L83
            rw [nI_add]
            refine ⟨fun w => ⟨fun w0 => absurd rfl w0, fun _ => ⟨fun w1 => ?_, fun w1 => dg 0 (Or.inr (fun q => w1 ((one v hv2).2 q)))⟩⟩, fun w => ⟨fun _ => dg 1 (Or.inl ((nI_eq (a := k + j) (b := 0) (by omega) (by omega)).1 w)), fun w0 => t_10 w0⟩⟩
            have hv : v = 1 := (one v hv2).1 w1
            have hkj : ¬ k + j = 0 := fun q => w (by rw [q]; rfl)
            rw [if_neg (by omega), List.nil_append] at hW
            refine xpart iv3 sh3 W 0 hI3 hQ3 ?_
            simp only [List.append_assoc] at hW ⊢
            exact hW
          unfold w110_L18
          rw [ix, nI_clamp (show 13 * k + j < 2 ^ 31 by omega), hgc k j (by omega) (by omega), hv1]
          refine ⟨fun w => absurd w (show ¬ nI j < nI 0 from fun z => absurd (nI_le (Nat.zero_le j) (by omega)) (Int32.not_le.2 z)), fun _ => ⟨b_in (by omega) (by omega), fun z13 e13 => ?_⟩⟩
          rw [e13]
          refine ⟨fun w => ⟨fun w1 => ?_, fun w1 => ?_⟩, fun w => ?_⟩
          · have hv0 : ¬ v = 0 := fun q => w ((zero v hv2).2 q)
            have hf : f = true := Classical.byContradiction (fun q => w1 (if_neg q))
            rw [if_neg hv0, if_pos hf, List.nil_append, List.append_assoc] at hV
            exact term iv2 sh2 V _ hI2 hQ2 hV
          · have hv0 : ¬ v = 0 := fun q => w ((zero v hv2).2 q)
            have hf : ¬ f = true := fun q => by rw [if_pos q] at w1; exact t_10 w1
            rw [if_neg hv0, if_neg hf] at hV
            refine rp_put (c := 32) (by decide) hI2 (fun iv3 sh3 hI3 hQ3 => ?_)
            refine rp_put (c := 43) (by decide) hI3 (fun iv4 sh4 hI4 hQ4 => ?_)
            refine rp_put (c := 32) (by decide) hI4 (fun iv5 sh5 hI5 hQ5 => ?_)
            refine term iv5 sh5 _ _ hI5 (rp_QT (rp_QT (rp_QT hQ2 hQ3) hQ4) hQ5) ?_
            simp only [List.append_assoc, List.cons_append, List.nil_append] at hV ⊢
            exact hV
          · have hv0 : v = 0 := (zero v hv2).1 w
            rw [if_pos hv0] at hV
            exact next iv2 sh2 V _ f rfl hI2 hQ2 hV
      exact cols 13 f iv1 sh1 V (by omega) hI1 hQ1 hV
  exact rows 13 true iv sh U (by omega) hI rp_QR rfl
end RP3
