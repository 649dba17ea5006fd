/-! PURE, the reference: printing -/
/-- the sheet holds the first bytes of U -/
def rp_I (iv sh : Nat → Int32) (U : List Nat) : Prop := iv 47 = nI (min 65536 U.length) ∧ iv 43 = (if 65536 < U.length then 7 else 0) ∧ ∀ j x, j < 65536 → U[j]? = some x → sh j = nI x
def rp_Q (iv iv' : Nat → Int32) : Prop := ∀ q, q ≠ 43 → q ≠ 47 → iv' q = iv q
theorem rp_QR {iv : Nat → Int32} : rp_Q iv iv := fun _ _ _ => rfl
theorem rp_QT {a b c : Nat → Int32} (h : rp_Q a b) (h' : rp_Q b c) : rp_Q a c := fun q q1 q2 => by rw [h' q q1 q2, h q q1 q2]
theorem b_nar8 : ∀ c, c < 128 → vp_nar .byte (nI c).toInt8.toInt32 = nI c := by decide +kernel
section RPR
variable {iv sh : Nat → Int32} {U : List Nat}
theorem rp_put {post : (Nat → Int32) → (Nat → Int32) → Prop} {c : Nat} (hc : c < 128) (hI : rp_I iv sh U) (h : ∀ iv' sh', rp_I iv' sh' (U ++ [c]) → rp_Q iv iv' → post iv' sh') : mpu_wp post (nI c) iv sh := by
  obtain ⟨h1, h2, h3⟩ := hI
  have hl : (U ++ [c]).length = U.length + 1 := by rw [List.length_append]; rfl
  unfold mpu_wp mpu_L41
  rw [h1, b_nar8 c hc]
  refine ⟨fun w => ?_, fun w => ?_⟩
  · have hU : U.length < 65536 := Classical.byContradiction (fun q => w (by rw [show min 65536 U.length = 65536 by omega]; rfl))
    have hm : min 65536 U.length = U.length := by omega
    rw [hm, nI_clamp (by omega)]
    refine ⟨b_in (by omega) (by omega), fun z1 e1 => ?_⟩
    refine h _ _ ⟨?_, ?_, fun j x hj hx => ?_⟩ (fun q _ q2 => va_up_ne _ _ q2)
    · rw [va_up_self, e1, nI_1, hl, show min 65536 (U.length + 1) = U.length + 1 by omega]
    · rw [va_up_ne _ _ (by decide), h2, hl, if_neg (by omega), if_neg (by omega)]
    · by_cases q : j = U.length
      · rw [q, List.getElem?_append_right (Nat.le_refl _), Nat.sub_self] at hx
        injection hx with hx
        rw [q, pk_us, ← hx]
      · rw [pk_un q]
        by_cases q2 : j < U.length
        · rw [List.getElem?_append_left q2] at hx
          exact h3 j x hj hx
        · rw [List.getElem?_eq_none (by rw [hl]; omega)] at hx
          exact absurd hx (by simp)
  · have hU : ¬ U.length < 65536 := fun q => by
      rw [show min 65536 U.length = U.length by omega] at w
      have := (nI_eq (a := U.length) (b := 65536) (by omega) (by omega)).1 w
      omega
    have key : ∀ iv', iv' 47 = iv 47 → iv' 43 = 7 → rp_Q iv iv' → post iv' sh := fun iv' e1 e2 e3 => h iv' sh ⟨by rw [e1, h1, hl, show min 65536 U.length = min 65536 (U.length + 1) by omega], by rw [e2, hl, if_pos (by omega)], fun j x hj hx => h3 j x hj (by rw [List.getElem?_append_left (by omega)] at hx; exact hx)⟩ e3
    unfold mma_wp mma_L16 mma_L28
    by_cases q : 65536 < U.length
    · rw [h2, if_pos q]
      refine ⟨fun _ => ⟨fun _ => ⟨rfl, key iv rfl (by rw [h2, if_pos q]) rp_QR⟩, fun w' => absurd w' (by decide)⟩, fun w' => absurd w' (by decide)⟩
    · rw [h2, if_neg q]
      refine ⟨fun w' => absurd rfl w', fun _ => ⟨fun w' => absurd rfl w', fun _ => ?_⟩⟩
      rw [va_up_self]
      exact ⟨fun _ => ⟨rfl, key _ (va_up_ne _ _ (by decide)) (va_up_self _ _ _) (fun q q1 _ => va_up_ne _ _ q1)⟩, fun w' => absurd w' (by decide)⟩
theorem nL_ltq {a b : Nat} (ha : a < 2 ^ 63) (hb : b < 2 ^ 63) : (nL a < nL b) ↔ a < b := by
  rw [← Int64.not_le, nL_leq hb ha]; omega
theorem b_n9 : (-9 : Int64) = iL (-9) := by decide
theorem rp_long {post : (Nat → Int32) → (Nat → Int32) → Prop} {n : Nat} (hn : n < 2 ^ 31) (hI : rp_I iv sh U) (h : ∀ iv' sh', rp_I iv' sh' (U ++ x_dg n) → rp_Q iv iv' → post iv' sh') : w105_wp post (nL n) iv sh := by
  have hx := x_dgD (n := n) (Nat.lt_of_lt_of_le hn (by decide))
  obtain ⟨d1, d2, d3, d4⟩ := hx
  have hdg : x_dg n = x_dec n (x_nD 47 n) := rfl
  rw [hdg] at h
  generalize x_nD 47 n = D at *
  have hD10 : D ≤ 10 := by
    rcases d4 with q | q
    · omega
    · refine Classical.byContradiction (fun w => ?_)
      have h1 : 10 ^ 10 ≤ 10 ^ (D - 1) := Nat.pow_le_pow_right (by decide) (by omega)
      have h2 : (2 : Nat) ^ 31 < 10 ^ 10 := by decide
      omega
  have hpw : ∀ k, k ≤ 10 → 10 ^ k < 2 ^ 63 ∧ 0 < 10 ^ k := by decide
  have hn63 : n < 2 ^ 63 := Nat.lt_of_lt_of_le hn (by decide)
  -- the digits, from place k down
  have digs : ∀ (k : Nat) (iv1 sh1 : Nat → Int32), k < D → rp_I iv1 sh1 (U ++ (x_dec n D).take (D - (k + 1))) → rp_Q iv iv1 → w105_L43 post (k + 2) (nL n) (nL (10 ^ k)) iv1 sh1 := by
    intro k
    induction k with
    | zero =>
      intro iv1 sh1 hk hI1 hQ1
      have e10 : nL (10 ^ 0) = nL 1 := rfl
      unfold w105_L43 w105_L76
      rw [e10, lg_cmp_le, show (0 : Int64) = nL 0 from rfl, nL_leq (by decide) (by decide), nL_divg hn63 (by decide), Nat.div_one, nL_mod10 hn63]
      refine ⟨fun w => absurd w (by decide), fun _ => ⟨fun w => absurd (nL_inj (by decide) (by decide) w) (by decide), fun z4 e4 => ?_⟩⟩
      rw [e4, lg_cmp_ge, nL_leq (by decide) (by omega)]
      refine ⟨fun _ => ?_, fun w => absurd (Nat.zero_le _) w⟩
      have ec : (48 : Int32) + (nL (n % 10)).toInt32 = nI (48 + n % 10) := by
        rw [show (nL (n % 10)).toInt32 = nI (n % 10) from nL_to32 _, show (48 : Int32) = nI 48 from rfl, nI_add]
      rw [ec]
      refine rp_put (by omega) hI1 (fun iv2 sh2 hI2 hQ2 z3 e3 => ?_)
      have e5 : nL 1 / 10 = nL 0 := by rw [nL_div (by decide)]
      rw [e3, e5]
      unfold w105_L43
      rw [lg_cmp_le, show (nL 0 ≤ 0) = (nL 0 ≤ nL 0) from rfl, nL_leq (by decide) (by decide)]
      refine ⟨fun _ => h iv2 sh2 ?_ (rp_QT hQ1 hQ2), fun w => absurd (Nat.le_refl 0) w⟩
      have e6 := x_dect n D 0 (by omega)
      rw [Nat.sub_zero, Nat.pow_zero, Nat.div_one, List.take_of_length_le (by rw [x_decl]; exact Nat.le_refl D)] at e6
      rw [e6, ← List.append_assoc]
      exact hI2
    | succ k ih =>
      intro iv1 sh1 hk hI1 hQ1
      have hp := hpw (k + 1) (by omega)
      have hdv : n / 10 ^ (k + 1) < 2 ^ 63 := Nat.lt_of_le_of_lt (Nat.div_le_self _ _) hn63
      unfold w105_L43 w105_L76
      rw [lg_cmp_le, show (0 : Int64) = nL 0 from rfl, nL_leq hp.1 (by decide), nL_divg hn63 hp.1, nL_mod10 hdv]
      refine ⟨fun w => absurd w (by omega), fun _ => ⟨fun w => absurd (nL_inj hp.1 (by decide) w) (by omega), fun z4 e4 => ?_⟩⟩
      rw [e4, lg_cmp_ge, nL_leq (by decide) (by omega)]
      refine ⟨fun _ => ?_, fun w => absurd (Nat.zero_le _) w⟩
      have ec : (48 : Int32) + (nL (n / 10 ^ (k + 1) % 10)).toInt32 = nI (48 + n / 10 ^ (k + 1) % 10) := by
        rw [show (nL (n / 10 ^ (k + 1) % 10)).toInt32 = nI (n / 10 ^ (k + 1) % 10) from nL_to32 _, show (48 : Int32) = nI 48 from rfl, nI_add]
      rw [ec]
      refine rp_put (by omega) hI1 (fun iv2 sh2 hI2 hQ2 z3 e3 => ?_)
      have e5 : nL (10 ^ (k + 1)) / 10 = nL (10 ^ k) := by
        rw [nL_div hp.1, Nat.pow_succ, Nat.mul_div_cancel _ (by decide)]
      rw [e3, e5]
      refine ih iv2 sh2 (by omega) ?_ (rp_QT hQ1 hQ2)
      rw [x_dect n D (k + 1) hk, ← List.append_assoc]
      exact hI2
  have grow : ∀ (u k : Nat) (iv1 sh1 : Nat → Int32), k + u + 1 = D → rp_I iv1 sh1 U → rp_Q iv iv1 → w105_L14 post (u + 1) (nL n) (nL (10 ^ k)) iv1 sh1 := by
    intro u
    induction u with
    | zero =>
      intro k iv1 sh1 hk hI1 hQ1
      have hp := hpw k (by omega)
      have hdv : n / 10 ^ k < 10 := by
        rw [Nat.div_lt_iff_lt_mul hp.2, Nat.mul_comm, ← Nat.pow_succ, show k.succ = D by omega]; exact d3
      unfold w105_L14
      rw [nL_divg hn63 hp.1, lg_cmp_gt, show (9 : Int64) = nL 9 from rfl, nL_ltq (by decide) (by omega), lg_cmp_ge]
      have hz : ¬ nL (10 ^ k) = 0 := fun w => absurd (nL_inj (b := 0) hp.1 (by decide) w) (by omega)
      refine ⟨hz, fun w => absurd w (by omega), fun _ => ⟨hz, fun _ => ⟨k + 2, ?_⟩, fun w => absurd ?_ w⟩⟩
      · refine digs k iv1 sh1 (by omega) ?_ hQ1
        rw [show D - (k + 1) = 0 by omega, List.take_zero, List.append_nil]; exact hI1
      · generalize n / 10 ^ k = v at hdv ⊢
        rw [iL_n, iL_n, iL_neg, Int64.le_iff_toInt_le, iL_toInt (by omega) (by omega), iL_toInt (by omega) (by omega)]
        omega
    | succ u ih =>
      intro k iv1 sh1 hk hI1 hQ1
      have hp := hpw k (by omega)
      have hdv : 9 < n / 10 ^ k := by
        have h1 : 10 ^ (D - 1) ≤ n := d4.resolve_left (by omega)
        have h2 : 10 ^ (k + 1) ≤ 10 ^ (D - 1) := Nat.pow_le_pow_right (by decide) (by omega)
        rw [Nat.lt_iff_add_one_le, Nat.le_div_iff_mul_le hp.2]
        rw [Nat.pow_succ] at h2
        omega
      unfold w105_L14 w105_L34
      rw [nL_divg hn63 hp.1, lg_cmp_gt, show (9 : Int64) = nL 9 from rfl, nL_ltq (by decide) (Nat.lt_of_le_of_lt (Nat.div_le_self _ _) hn63)]
      have hz : ¬ nL (10 ^ k) = 0 := fun w => absurd (nL_inj (b := 0) hp.1 (by decide) w) (by omega)
      refine ⟨hz, fun _ z5 e5 => ?_, fun w => absurd hdv w⟩
      rw [e5, show (10 : Int64) = nL 10 from rfl, nL_mul, ← Nat.pow_succ]
      exact ih (k + 1) iv1 sh1 (by omega) hI1 hQ1
  unfold w105_wp w105_L12
  rw [lg_cmp_ge, show (0 : Int64) = nL 0 from rfl, nL_leq (by decide) hn63]
  refine ⟨fun _ => ⟨_, grow (D - 1) 0 iv sh (by omega) hI rp_QR⟩, fun w => absurd (Nat.zero_le n) w⟩
theorem x_st123 : x_str 1 = [] ∧ x_str 2 = [32] ∧ x_str 3 = [125, 10] := by decide +kernel
theorem rp_set {post : (Nat → Int32) → (Nat → Int32) → Prop} {S : Nat} (hS : S < 2 ^ 31) (hI : rp_I iv sh U) (h : ∀ iv' sh', rp_I iv' sh' (U ++ x_set S) → rp_Q iv iv' → post iv' sh') : w106_wp post (nI S) iv sh := by
  have loop : ∀ (t i : Nat) (f : Bool) (iv1 sh1 : Nat → Int32) (V : List Nat), i + t = 12 → rp_I iv1 sh1 V → rp_Q iv iv1 → V ++ x_setl S t i f = U ++ x_set S → w106_L10 post (t + 1) (nI S) (if f = true then 1 else 0) (nI i) iv1 sh1 := by
    intro t
    induction t with
    | zero =>
      intro i f iv1 sh1 V hi hI1 hQ1 hV
      have : i = 12 := by omega
      subst this
      refine ⟨fun _ => ?_, fun w => absurd (Int32.le_refl 12) w⟩
      refine rp_put (c := 125) (by decide) hI1 (fun iv2 sh2 hI2 hQ2 => ?_)
      refine rp_put (c := 10) (by decide) hI2 (fun iv3 sh3 hI3 hQ3 => ?_)
      refine h iv3 sh3 ?_ (rp_QT (rp_QT hQ1 hQ2) hQ3)
      rw [← hV]
      show rp_I iv3 sh3 (V ++ x_str 3)
      rw [x_st123.2.2]
      rw [List.append_assoc] at hI3
      exact hI3
    | succ t ih =>
      intro i f iv1 sh1 V hi hI1 hQ1 hV
      have hsl : x_setl S (t + 1) i f = if S.testBit i = true then x_str (if f = true then 1 else 2) ++ (x_dg i ++ x_setl S t (i + 1) false) else x_setl S t (i + 1) f := rfl
      rw [hsl] at hV
      unfold w106_L10 w106_L43 w106_L35
      refine ⟨fun w => absurd w (show ¬ nI 12 ≤ nI i from nI_ge (by omega) (by omega)), fun _ => ⟨fun w z1 e1 => ?_, fun w => ?_⟩⟩
      · have hb : ¬ S.testBit i = true := fun q => w ((b_bit1 hS (by omega)).2 q)
        rw [if_neg hb] at hV
        rw [e1, nI_1]
        exact ih (i + 1) f iv1 sh1 V (by omega) hI1 hQ1 hV
      · have hb : S.testBit i = true := (b_bit1 hS (by omega)).1 w
        rw [if_pos hb] at hV
        rw [nL_of (show i < 2 ^ 31 by omega)]
        have num : ∀ (iv2 sh2 : Nat → Int32) (V2 : List Nat), rp_I iv2 sh2 V2 → rp_Q iv iv2 → V2 ++ (x_dg i ++ x_setl S t (i + 1) false) = U ++ x_set S → w105_wp (fun v2 v3 => ∀ z1 : Int32, z1 = nI i + 1 → w106_L10 post (t + 1) (nI S) 0 z1 v2 v3) (nL i) iv2 sh2 := fun iv2 sh2 V2 hI2 hQ2 hV2 => by
          refine rp_long (by omega) hI2 (fun iv3 sh3 hI3 hQ3 z1 e1 => ?_)
          rw [e1, nI_1]
          exact ih (i + 1) false iv3 sh3 (V2 ++ x_dg i) (by omega) hI3 (rp_QT hQ2 hQ3) (by rw [List.append_assoc]; exact hV2)
        refine ⟨fun w1 => ?_, fun w1 => ?_⟩
        · have hf : f = true := Classical.byContradiction (fun q => w1 (if_neg q))
          rw [hf, if_pos rfl, x_st123.1, List.nil_append] at hV
          exact num iv1 sh1 V hI1 hQ1 hV
        · have hf : f = false := Bool.eq_false_iff.2 (fun q => by rw [if_pos q] at w1; exact t_10 w1)
          rw [hf, if_neg Bool.noConfusion, x_st123.2.1] at hV
          refine rp_put (c := 32) (by decide) hI1 (fun iv2 sh2 hI2 hQ2 => ?_)
          exact num iv2 sh2 (V ++ [32]) hI2 (rp_QT hQ1 hQ2) (by rw [List.append_assoc]; exact hV)
  unfold w106_wp
  refine rp_put (c := 123) (by decide) hI (fun iv1 sh1 hI1 hQ1 => ⟨13, ?_⟩)
  refine loop 12 0 true iv1 sh1 (U ++ [123]) (by omega) hI1 hQ1 ?_
  rw [List.append_assoc]; rfl
end RPR
