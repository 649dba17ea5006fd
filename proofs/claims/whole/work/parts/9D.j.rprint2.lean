/-! PURE, the reference: families, signs and minors printed -/
/-- P k, P (k + 1), .. , u of them -/
def x_fa (P : Nat → List Nat) : Nat → Nat → List Nat
  | 0, _ => []
  | u + 1, k => P k ++ x_fa P u (k + 1)
section RP2
variable {iv sh ge gr gR gS go gz gt gi gx : Nat → Int32} {U : List Nat} {m n r : Nat} {b : Nat → Bool}
theorem b_gtw {n S : Nat} (hn : n ≤ 12) (hS : S < 4096) : nI (2 ^ n - 1) < nI S ↔ ¬ S < 2 ^ n := by
  have hp : 0 < 2 ^ n := Nat.two_pow_pos n
  have hp2 : 2 ^ n ≤ 2 ^ 12 := Nat.pow_le_pow_right (by decide) hn
  have hp2 : 2 ^ n ≤ 4096 := hp2
  constructor
  · intro w q
    exact absurd (nI_le (show S ≤ 2 ^ n - 1 by omega) (by omega)) (Int32.not_le.2 w)
  · intro w
    exact nI_lt (by omega) (by omega)
def x_fml (b : Nat → Bool) (n r kind k : Nat) : List Nat := if x_or 12 k < 2 ^ n ∧ x_of b n r kind (x_or 12 k) = true then x_set (x_or 12 k) else []
theorem rp_family {post : (Nat → Int32) → (Nat → Int32) → (Nat → Int32) → (Nat → Int32) → (Nat → Int32) → (Nat → Int32) → (Nat → Int32) → Prop} {kind : Nat} (hD : r_D ge gr gR m n r b) (hT : r_T go gz) (hk : kind < 4) (hI : rp_I iv sh U) (h : ∀ iv' sh', rp_I iv' sh' (U ++ x_fa (x_fml b n r kind) 4096 0) → rp_Q iv iv' → post iv' ge gr gR go gz sh') : w111_wp post (nI m) (nI kind) iv ge gr gR go gz sh := by
  have hn := (r_Dn hD).1
  have loop : ∀ (u k : Nat) (iv1 sh1 : Nat → Int32) (V : List Nat), k + u = 4096 → rp_I iv1 sh1 V → rp_Q iv iv1 → V ++ x_fa (x_fml b n r kind) u k = U ++ x_fa (x_fml b n r kind) 4096 0 → w111_L2 post (u + 1) (nI m) (nI kind) (nI k) iv1 ge gr gR go gz sh1 := by
    intro u
    induction u with
    | zero =>
      intro k iv1 sh1 V hk1 hI1 hQ1 hV
      have : k = 4096 := by omega
      subst this
      refine ⟨fun _ => h iv1 sh1 ?_ hQ1, fun w => absurd (Int32.le_refl 4096) w⟩
      rw [← hV]
      show rp_I iv1 sh1 (V ++ [])
      rw [List.append_nil]; exact hI1
    | succ u ih =>
      intro k iv1 sh1 V hk1 hI1 hQ1 hV
      have hol := (x_orl (m := 12) (Nat.le_refl 12) (show k < 2 ^ 12 by omega)).1
      have hol : x_or 12 k < 4096 := hol
      have hfa : x_fa (x_fml b n r kind) (u + 1) k = x_fml b n r kind k ++ x_fa (x_fml b n r kind) u (k + 1) := rfl
      rw [hfa] at hV
      have hgo := hT.1 k (by omega)
      unfold w111_L2 w111_L48
      rw [nI_clamp (show k < 2 ^ 31 by omega), hgo]
      have ink : vp_in (nI k) 4096 := b_in (by omega) (by omega)
      have skip : ¬ (x_or 12 k < 2 ^ n ∧ x_of b n r kind (x_or 12 k) = true) → ∀ z1 : Int32, z1 = nI k + 1 → w111_L2 post (u + 1) (nI m) (nI kind) z1 iv1 ge gr gR go gz sh1 := fun q z1 e1 => by
        rw [e1, nI_1]
        refine ih (k + 1) iv1 sh1 V (by omega) hI1 hQ1 ?_
        have e2 : x_fml b n r kind k = [] := by unfold x_fml; rw [if_neg q]
        rw [e2, List.nil_append] at hV
        exact hV
      refine ⟨fun w => absurd w (show ¬ nI 4096 ≤ nI k from nI_ge (by omega) (by omega)), fun _ => ⟨ink, r_whole hD ⟨fun w => ?_, fun w => ⟨ink, ?_⟩⟩⟩⟩
      · exact skip (fun q => ((b_gtw hn hol).1 w) q.1)
      · have hS : x_or 12 k < 2 ^ n := Classical.byContradiction (fun q => w ((b_gtw hn hol).2 q))
        refine r_isOf hD hT hk hS ⟨fun w1 => ?_, fun w1 => ⟨ink, ?_⟩⟩
        · exact skip (fun q => by rw [if_pos q.2] at w1; exact t_10 w1)
        · have ho : x_of b n r kind (x_or 12 k) = true := Classical.byContradiction (fun q => w1 (if_neg q))
          refine rp_set (by omega) hI1 (fun iv2 sh2 hI2 hQ2 z1 e1 => ?_)
          rw [e1, nI_1]
          refine ih (k + 1) iv2 sh2 _ (by omega) hI2 (rp_QT hQ1 hQ2) ?_
          have e2 : x_fml b n r kind k = x_set (x_or 12 k) := by unfold x_fml; rw [if_pos ⟨hS, ho⟩]
          rw [e2] at hV
          rw [List.append_assoc]; exact hV
  exact ⟨4097, loop 4096 0 iv sh U (by omega) hI rp_QR rfl⟩
/-- a sign's mark -/
def x_mrk (x : Int32) : Nat := if x = 0 then 48 else if 0 ≤ x then 43 else 45
theorem r_mark {post : Int32 → Prop} {x : Int32} (h : post (nI (x_mrk x))) : w112_wp post x := by
  unfold w112_wp w112_L20
  unfold x_mrk at h
  refine ⟨fun w => ⟨fun w1 => ?_, fun w1 => ?_⟩, fun w => ?_⟩
  · rw [if_pos (Int32.le_antisymm w1 w)] at h; exact h
  · rw [if_neg (fun q => w1 (by rw [q]; exact Int32.le_refl 0)), if_pos w] at h; exact h
  · rw [if_neg (fun q => w (by rw [q]; exact Int32.le_refl 0)), if_neg w] at h; exact h
theorem x_mrkl (x : Int32) : x_mrk x < 128 := by
  unfold x_mrk
  split
  · decide
  · split <;> decide
def x_chl (n r : Nat) (s : Nat → Int32) (k : Nat) : List Nat := if x_or 12 k < 2 ^ n ∧ x_n (x_or 12 k) = r then [x_mrk (s (x_or 12 k))] else []
theorem rp_chiro {post : (Nat → Int32) → (Nat → Int32) → (Nat → Int32) → (Nat → Int32) → (Nat → Int32) → (Nat → Int32) → (Nat → Int32) → Prop} {s : Nat → Int32} (hD : r_D ge gr gR m n r b) (hT : r_T go gz) (hS : ∀ S, S < 2 ^ n → gS (4096 * m + S) = s S) (hI : rp_I iv sh U) (h : ∀ iv' sh', rp_I iv' sh' (U ++ (x_fa (x_chl n r s) 4096 0 ++ [10])) → rp_Q iv iv' → post iv' ge gr gS go gz sh') : w113_wp post (nI m) iv ge gr gS go gz sh := by
  have hn := (r_Dn hD).1
  have hr := (r_Dn hD).2
  have hm := hD.1
  have loop : ∀ (u k : Nat) (iv1 sh1 : Nat → Int32) (V : List Nat), k + u = 4096 → rp_I iv1 sh1 V → rp_Q iv iv1 → V ++ (x_fa (x_chl n r s) u k ++ [10]) = U ++ (x_fa (x_chl n r s) 4096 0 ++ [10]) → w113_L2 post (u + 1) (nI m) (nI k) iv1 ge gr gS go gz sh1 := by
    intro u
    induction u with
    | zero =>
      intro k iv1 sh1 V hk1 hI1 hQ1 hV
      have : k = 4096 := by omega
      subst this
      refine ⟨fun _ => rp_put (c := 10) (by decide) hI1 (fun iv2 sh2 hI2 hQ2 => h iv2 sh2 ?_ (rp_QT hQ1 hQ2)), fun w => absurd (Int32.le_refl 4096) w⟩
      rw [← hV]
      exact hI2
    | succ u ih =>
      intro k iv1 sh1 V hk1 hI1 hQ1 hV
      have hol : x_or 12 k < 4096 := (x_orl (m := 12) (Nat.le_refl 12) (show k < 2 ^ 12 by omega)).1
      have hfa : x_fa (x_chl n r s) (u + 1) k = x_chl n r s k ++ x_fa (x_chl n r s) u (k + 1) := rfl
      rw [hfa, List.append_assoc] at hV
      have hgo := hT.1 k (by omega)
      unfold w113_L2 w113_L67
      have ix : (4096 : Int32) * nI m + nI (x_or 12 k) = nI (4096 * m + x_or 12 k) := b_i4
      rw [nI_clamp (show k < 2 ^ 31 by omega), hgo, nI_clamp (show x_or 12 k < 2 ^ 31 by omega), nI_clamp (show m < 2 ^ 31 by omega), hT.2 _ hol, hD.2.2.1, ix, nI_clamp (show 4096 * m + x_or 12 k < 2 ^ 31 by omega)]
      have ink : vp_in (nI k) 4096 := b_in (by omega) (by omega)
      have skip : ¬ (x_or 12 k < 2 ^ n ∧ x_n (x_or 12 k) = r) → ∀ z1 : Int32, z1 = nI k + 1 → w113_L2 post (u + 1) (nI m) z1 iv1 ge gr gS go gz sh1 := fun q z1 e1 => by
        rw [e1, nI_1]
        refine ih (k + 1) iv1 sh1 V (by omega) hI1 hQ1 ?_
        have e2 : x_chl n r s k = [] := by unfold x_chl; rw [if_neg q]
        rw [e2, List.nil_append] at hV
        exact hV
      have hnl := x_nle (x_or 12 k)
      refine ⟨fun w => absurd w (show ¬ nI 4096 ≤ nI k from nI_ge (by omega) (by omega)), fun _ => ⟨ink, r_whole hD ⟨fun w => ?_, fun w => ⟨ink, b_in (by omega) (by omega), b_in (by omega) (by omega), fun w1 => ?_, fun w1 => ⟨ink, b_in (by omega) (by omega), r_mark ?_⟩⟩⟩⟩⟩
      · exact skip (fun q => ((b_gtw hn hol).1 w) q.1)
      · exact skip (fun q => w1 (by rw [q.2]))
      · have hS1 : x_or 12 k < 2 ^ n := Classical.byContradiction (fun q => w ((b_gtw hn hol).2 q))
        have hr1 : x_n (x_or 12 k) = r := (nI_eq (by omega) (by omega)).1 w1
        rw [hS _ hS1]
        refine rp_put (x_mrkl _) hI1 (fun iv2 sh2 hI2 hQ2 z1 e1 => ?_)
        rw [e1, nI_1]
        refine ih (k + 1) iv2 sh2 _ (by omega) hI2 (rp_QT hQ1 hQ2) ?_
        have e2 : x_chl n r s k = [x_mrk (s (x_or 12 k))] := by unfold x_chl; rw [if_pos ⟨hS1, hr1⟩]
        rw [e2] at hV
        rw [List.append_assoc]; exact hV
  exact ⟨4097, loop 4096 0 iv sh U (by omega) hI rp_QR rfl⟩
/-- the row of a circuit: B is what lies below -/
def x_sgc (C B e : Nat) : List Nat := [if C.testBit e = true then (if B.testBit e = true then 45 else 43) else 48]
def x_sgl (b : Nat → Bool) (n : Nat) (s : Nat → Int32) (k : Nat) : List Nat := if x_or 12 k < 2 ^ n ∧ x_ci b n (x_or 12 k) = true then x_fa (x_sgc (x_or 12 k) (x_ngk s (x_cb b n (x_or 12 k)) (x_or 12 k) n)) n 0 ++ [10] else []
theorem rp_signs {post : (Nat → Int32) → (Nat → Int32) → (Nat → Int32) → (Nat → Int32) → (Nat → Int32) → (Nat → Int32) → (Nat → Int32) → (Nat → Int32) → (Nat → Int32) → Prop} {s : Nat → Int32} (hD : r_D ge gr gR m n r b) (hT : r_T go gz) (hS : ∀ S, S < 2 ^ n → gS (4096 * m + S) = s S) (hs : ∀ S, S < 2 ^ n → b S = true → s S = 1 ∨ s S = -1) (hng : ∀ C, C < 2 ^ n → x_ngk s (x_cb b n C) C n < 2 ^ 31) (hI : rp_I iv sh U) (h : ∀ iv' gt' sh', rp_I iv' sh' (U ++ x_fa (x_sgl b n s) 4096 0) → rp_Q iv iv' → post iv' ge gr gR gS go gz gt' sh') : w114_wp post (nI m) iv ge gr gR gS go gz gt sh := by
  have hn := (r_Dn hD).1
  have hm := hD.1
  have inm : vp_in (nI m) 26 := b_in hm (by omega)
  have loop : ∀ (u k : Nat) (iv1 gt1 sh1 : Nat → Int32) (V : List Nat), k + u = 4096 → rp_I iv1 sh1 V → rp_Q iv iv1 → V ++ x_fa (x_sgl b n s) u k = U ++ x_fa (x_sgl b n s) 4096 0 → w114_L2 post (u + 1) (nI m) (nI k) iv1 ge gr gR gS go gz gt1 sh1 := by
    intro u
    induction u with
    | zero =>
      intro k iv1 gt1 sh1 V hk1 hI1 hQ1 hV
      have : k = 4096 := by omega
      subst this
      refine ⟨fun _ => h iv1 gt1 sh1 ?_ hQ1, fun w => absurd (Int32.le_refl 4096) w⟩
      rw [← hV]
      show rp_I iv1 sh1 (V ++ [])
      rw [List.append_nil]; exact hI1
    | succ u ih =>
      intro k iv1 gt1 sh1 V hk1 hI1 hQ1 hV
      have hol : x_or 12 k < 4096 := (x_orl (m := 12) (Nat.le_refl 12) (show k < 2 ^ 12 by omega)).1
      have hfa : x_fa (x_sgl b n s) (u + 1) k = x_sgl b n s k ++ x_fa (x_sgl b n s) u (k + 1) := rfl
      rw [hfa] at hV
      have hgo := hT.1 k (by omega)
      have ink : vp_in (nI k) 4096 := b_in (by omega) (by omega)
      unfold w114_L2 w114_L108
      rw [nI_clamp (show k < 2 ^ 31 by omega), hgo]
      have skip : ¬ (x_or 12 k < 2 ^ n ∧ x_ci b n (x_or 12 k) = true) → ∀ gt2 : Nat → Int32, ∀ z1 : Int32, z1 = nI k + 1 → w114_L2 post (u + 1) (nI m) z1 iv1 ge gr gR gS go gz gt2 sh1 := fun q gt2 z1 e1 => by
        rw [e1, nI_1]
        refine ih (k + 1) iv1 gt2 sh1 V (by omega) hI1 hQ1 ?_
        have e2 : x_sgl b n s k = [] := by unfold x_sgl; rw [if_neg q]
        rw [e2, List.nil_append] at hV
        exact hV
      refine ⟨fun w => absurd w (show ¬ nI 4096 ≤ nI k from nI_ge (by omega) (by omega)), fun _ => ⟨ink, fun z7 e7 => ?_⟩⟩
      rw [e7]
      refine r_whole hD ⟨fun w => ?_, fun w => ?_⟩
      · exact skip (fun q => ((b_gtw hn hol).1 w) q.1) gt1
      · have hS1 : x_or 12 k < 2 ^ n := Classical.byContradiction (fun q => w ((b_gtw hn hol).2 q))
        refine r_isCirc (du := false) (v := x_rk b) hD hT (fun T _ => by rw [if_neg Bool.noConfusion]) hS1 ⟨fun w1 => ?_, fun w1 => ?_⟩
        · have hc : x_ci b n (x_or 12 k) = true := by
            rw [← x_ciE hD.2.2.2.1 hS1]
            exact Classical.byContradiction (fun q => w1 (if_neg q))
          refine r_below hD (x_ciT hn hS1 hc) hS hs (fun gt2 => ⟨n + 1, ?_⟩)
          have e2 : x_sgl b n s k = x_fa (x_sgc (x_or 12 k) (x_ngk s (x_cb b n (x_or 12 k)) (x_or 12 k) n)) n 0 ++ [10] := by unfold x_sgl; rw [if_pos ⟨hS1, hc⟩]
          rw [e2] at hV
          have hB := hng _ hS1
          generalize x_ngk s (x_cb b n (x_or 12 k)) (x_or 12 k) n = B at *
          have cells : ∀ (v e : Nat) (iv2 sh2 : Nat → Int32) (W : List Nat), e + v = n → rp_I iv2 sh2 W → rp_Q iv iv2 → W ++ (x_fa (x_sgc (x_or 12 k) B) v e ++ [10] ++ x_fa (x_sgl b n s) u (k + 1)) = U ++ x_fa (x_sgl b n s) 4096 0 → w114_L49 (w114_L2 post (u + 1)) post (v + 1) (nI m) (nI k) (nI (x_or 12 k)) (nI B) (nI e) iv2 ge gr gR gS go gz gt2 sh2 := by
            intro v
            induction v with
            | zero =>
              intro e iv2 sh2 W he hI2 hQ2 hW
              have : e = n := by omega
              subst this
              unfold w114_L49 w114_L108
              rw [nI_clamp (show m < 2 ^ 31 by omega), hD.2.1]
              refine ⟨inm, fun _ => ?_, fun w => absurd (nI_le (Nat.le_refl e) (by omega)) w⟩
              refine rp_put (c := 10) (by decide) hI2 (fun iv3 sh3 hI3 hQ3 z1 e1 => ?_)
              rw [e1, nI_1]
              refine ih (k + 1) iv3 gt2 sh3 _ (by omega) hI3 (rp_QT hQ2 hQ3) ?_
              rw [List.append_assoc]; exact hW
            | succ v ihv =>
              intro e iv2 sh2 W he hI2 hQ2 hW
              have hfe : x_fa (x_sgc (x_or 12 k) B) (v + 1) e = x_sgc (x_or 12 k) B e ++ x_fa (x_sgc (x_or 12 k) B) v (e + 1) := rfl
              rw [hfe] at hW
              have go' : ∀ c : Nat, c < 128 → x_sgc (x_or 12 k) B e = [c] → w114_L93 (w114_L2 post (u + 1)) (w114_L49 (w114_L2 post (u + 1)) post (v + 1)) post (nI m) (nI k) (nI (x_or 12 k)) (nI B) (nI e) (nI c) iv2 ge gr gR gS go gz gt2 sh2 := fun c hc ec => by
                unfold w114_L93
                refine rp_put hc hI2 (fun iv3 sh3 hI3 hQ3 z4 e4 => ?_)
                rw [e4, nI_1]
                refine ihv (e + 1) iv3 sh3 _ (by omega) hI3 (rp_QT hQ2 hQ3) ?_
                rw [ec] at hW
                rw [List.append_assoc]
                simp only [List.append_assoc] at hW ⊢
                exact hW
              unfold w114_L49
              rw [nI_clamp (show m < 2 ^ 31 by omega), hD.2.1]
              refine ⟨inm, fun w => absurd w (nI_ge (by omega) (by omega)), fun _ => ⟨fun w => ⟨fun w1 => go' 43 (by decide) ?_, fun w1 => go' 45 (by decide) ?_⟩, fun w => go' 48 (by decide) ?_⟩⟩
              · have h1 : (x_or 12 k).testBit e = true := Classical.byContradiction (fun q => w ((b_bit0 (by omega) (by omega)).2 (Bool.eq_false_iff.2 q)))
                have h2 : ¬ B.testBit e = true := fun q => w1 ((b_bit1 hB (by omega)).2 q)
                unfold x_sgc; rw [if_pos h1, if_neg h2]
              · have h1 : (x_or 12 k).testBit e = true := Classical.byContradiction (fun q => w ((b_bit0 (by omega) (by omega)).2 (Bool.eq_false_iff.2 q)))
                have h2 : B.testBit e = true := (b_bit1 hB (by omega)).1 w1
                unfold x_sgc; rw [if_pos h1, if_pos h2]
              · have h1 : (x_or 12 k).testBit e = false := (b_bit0 (by omega) (by omega)).1 w
                unfold x_sgc; rw [h1]; rfl
          exact cells n 0 iv1 sh1 V (by omega) hI1 hQ1 hV
        · refine skip (fun q => ?_) gt1
          rw [x_ciE hD.2.2.2.1 hS1, if_pos q.2] at w1
          exact t_10 w1
  exact ⟨4097, loop 4096 0 iv gt sh U (by omega) hI rp_QR rfl⟩
end RP2
