/-! PURE, the reference: measure, its two passes over ranks -/
section RME
variable {n r : Nat} {b : Nat → Bool}
theorem x_frs (hb : x_M n r b) {S e : Nat} (he : e < 12) (hS : S.testBit e = false) (h : x_rk b (x_t S e) = x_n (x_t S e)) : x_rk b S = x_n S := by
  have h1 := x_rk1 hb he hS
  have h2 := x_nt0 he hS
  have h3 := x_rkn (b := b) S
  omega
theorem x_frx (hb : x_M n r b) {S : Nat} (hS : S < 2 ^ n) (h : x_rk b S = x_n S) (hn : ¬ b S = true) : ∃ e, e < n ∧ S.testBit e = false ∧ x_rk b (x_t S e) = x_n (x_t S e) := by
  obtain ⟨B, hB, hsub⟩ := x_ind hb h
  have hB2 := (hb.2.2.1 B hB).1
  have hn12 := hb.1
  have hS12 : S < 2 ^ 12 := Nat.lt_of_lt_of_le hS (Nat.pow_le_pow_right (by decide) hn12)
  have hB12 : B < 2 ^ 12 := Nat.lt_of_lt_of_le hB2 (Nat.pow_le_pow_right (by decide) hn12)
  by_cases q : ∃ e, e < 12 ∧ B.testBit e = true ∧ S.testBit e = false
  · obtain ⟨e, e1, e2, e3⟩ := q
    refine ⟨e, ?_, e3, x_indr hb hB (fun i hi hb' => ?_)⟩
    · refine Classical.byContradiction (fun w => ?_)
      rw [x_hi hB2 (show n ≤ e by omega)] at e2; exact Bool.noConfusion e2
    · by_cases w : i = e
      · rw [w]; exact e2
      · rw [x_tbn w] at hb'; exact hsub i hi hb'
  · have : S = B := x_ext hS12 hB12 (fun i hi => by
      cases h1 : S.testBit i
      · cases h2 : B.testBit i
        · rfl
        · exact absurd ⟨i, hi, h2, h1⟩ q
      · exact (hsub i hi h1).symm)
    rw [this] at hn; exact absurd hB hn
theorem x_rkdrop (hb : x_M n r b) {S : Nat} (hS : S < 2 ^ n) (h : ¬ x_rk b S = x_n S) : ∃ e, e < n ∧ S.testBit e = true ∧ x_rk b S ≤ x_rk b (x_t S e) := by
  obtain ⟨B, hB, e0⟩ := x_rkex hb S
  have hn12 := hb.1
  by_cases q : ∃ e, e < 12 ∧ S.testBit e = true ∧ B.testBit e = false
  · obtain ⟨e, e1, e2, e3⟩ := q
    refine ⟨e, Classical.byContradiction (fun w => ?_), e2, ?_⟩
    · rw [x_hi hS (show n ≤ e by omega)] at e2; exact Bool.noConfusion e2
    · have := x_rkle hb (x_t S e) hB
      have e4 : x_n (x_t S e &&& B) = x_n (S &&& B) := x_cnc 12 (fun i hi => by
        rw [Nat.testBit_and, Nat.testBit_and]
        by_cases w : i = e
        · rw [w, e3, Bool.and_false, Bool.and_false]
        · rw [x_tbn w])
      omega
  · have : x_n (S &&& B) = x_n S := x_cnc 12 (fun i hi => by
      rw [Nat.testBit_and]
      cases h1 : S.testBit i
      · rfl
      · cases h2 : B.testBit i
        · exact absurd ⟨i, hi, h1, h2⟩ q
        · rfl)
    omega
theorem b_i4 {m S : Nat} : (4096 : Int32) * nI m + nI S = nI (4096 * m + S) := by
  rw [show (4096 : Int32) = nI 4096 from rfl, pk_mul, nI_add]
variable {iv gs gp fr fc gm gS go gz : Nat → Int32} {nv : Nat → px_NV} {m : Nat}
theorem r_m3 {post : (Nat → Int32) → (Nat → Int32) → (Nat → Int32) → (Nat → Int32) → (Nat → Int32) → (Nat → Int32) → (Nat → Int32) → (Nat → Int32) → (Nat → Int32) → (Nat → Int32) → (Nat → px_NV) → Prop} {x3 : Int32} {gR0 : Nat → Int32} (hb : x_M n r b) (hm : m < 26) (hiv : iv 11 = nI n) (hT : r_T go gz) (h : ∀ gR', (∀ T, T < 2 ^ n → gR' (4096 * m + T) = nI (x_rk b T)) → (∀ q, (q < 4096 * m ∨ 4096 * m + 2 ^ n ≤ q) → gR' q = gR0 q) → post iv gs gp fr fc gm gR' gS go gz nv) : ∀ (u S : Nat) (gR : Nat → Int32), S + u = 2 ^ n → (∀ T, T < S → gR (4096 * m + T) = nI (x_rk b T)) → (∀ T, S ≤ T → T < 2 ^ n → gR (4096 * m + T) = if x_rk b T = x_n T then 1 else 0) → (∀ q, (q < 4096 * m ∨ 4096 * m + 2 ^ n ≤ q) → gR q = gR0 q) → w69_L253 post (u + 1) (nI m) (nI (2 ^ n)) x3 (nI S) iv gs gp fr fc gm gR gS go gz nv := by
  have hn := hb.1
  have hp := b_p12 hn
  intro u
  induction u with
  | zero =>
    intro S gR hS h1 h2 h3
    have : S = 2 ^ n := by omega
    subst this
    exact ⟨fun _ => h gR h1 h3, fun w => absurd (nI_le (Nat.le_refl _) (by omega)) w⟩
  | succ u ih =>
    intro S gR hS h1 h2 h3
    have hSn : S < 2 ^ n := by omega
    have hbyte : ∀ v, v ≤ x_rk b S → vp_nar .byte (nI v).toInt8.toInt32 = nI v := fun v hv => b_byte v (by have := x_rkn (b := b) S; have := x_nle S; omega)
    have inner : ∀ (w e v : Nat), e + w = n → v ≤ x_rk b S → (x_rk b S = x_n S → x_n S ≤ v) → (∀ e', e' < e → S.testBit e' = true → x_rk b (x_t S e') ≤ v) → w69_L292 (w69_L253 post (u + 1)) post (w + 1) (nI m) (nI (2 ^ n)) x3 (nI S) (nI v) (nI e) iv gs gp fr fc gm gR gS go gz nv := by
      intro w
      induction w with
      | zero =>
        intro e v he v1 v2 v3
        have : e = n := by omega
        subst this
        have hv : v = x_rk b S := by
          refine Nat.le_antisymm v1 ?_
          by_cases q : x_rk b S = x_n S
          · have := v2 q; omega
          · obtain ⟨e', q1, q2, q3⟩ := x_rkdrop hb hSn q
            have := v3 e' q1 q2; omega
        unfold w69_L292
        rw [b_i4, nI_clamp (show 4096 * m + S < 2 ^ 31 by omega), hbyte v v1]
        refine ⟨fun _ => ⟨b_in (by omega) (by omega), fun z2 e2 => ?_⟩, fun w => absurd (by rw [hiv]; exact nI_le (Nat.le_refl e) (by omega)) w⟩
        rw [e2, nI_1]
        refine ih (S + 1) _ (by omega) (fun T q => ?_) (fun T q1 q2 => ?_) (fun q w => ?_)
        · by_cases z : T = S
          · rw [z, pk_us, hv]
          · rw [pk_un (by omega)]; exact h1 T (by omega)
        · rw [pk_un (by omega)]; exact h2 T (by omega) q2
        · rw [pk_un (by omega)]; exact h3 q w
      | succ w ihw =>
        intro e v he v1 v2 v3
        have hvl : v ≤ 12 := by have := x_rkn (b := b) S; have := x_nle S; omega
        unfold w69_L292 w69_L334 w69_L350
        rw [b_bit1 (show S < 2 ^ 31 by omega) (show e < 32 by omega), b_sh (by omega), b_xor, b_i4 (S := S ^^^ 2 ^ e), nI_clamp (show 4096 * m + (S ^^^ 2 ^ e) < 2 ^ 31 by
          have : S ^^^ 2 ^ e < 2 ^ n := x_tl hSn (by omega)
          omega)]
        refine ⟨fun w => absurd w (by rw [hiv]; exact nI_ge (by omega) (by omega)), fun _ => ⟨fun q => ⟨fun _ z ez => ?_, fun q' => absurd (nI_pos' (by omega)) q'⟩, fun q => ?_⟩⟩
        · rw [ez, nI_1]
          refine ihw (e + 1) v (by omega) v1 v2 (fun e' q1 q2 => ?_)
          by_cases z : e' = e
          · rw [z] at q2; exact absurd q2 q
          · exact v3 e' (by omega) q2
        · have hlt : x_t S e < S := by
            have : S = x_t (x_t S e) e := (x_tt S e).symm
            have hbt : (x_t S e).testBit e = false := by rw [x_tbs, q]; rfl
            have e1 := x_tor0 hbt
            rw [x_tt] at e1
            have h1 : x_t S e ≤ x_t S e ||| 2 ^ e := Nat.left_le_or
            have h2 : x_t S e ≠ S := fun z => by rw [z, q] at hbt; exact Bool.noConfusion hbt
            omega
          have hxr : S ^^^ 2 ^ e = x_t S e := rfl
          rw [hxr, h1 _ hlt]
          have hle : x_rk b (x_t S e) ≤ x_rk b S := by
            have := x_rk0 hb (S := x_t S e) (e := e) (by omega) (by rw [x_tbs, q]; rfl)
            rw [x_tt] at this; exact this
          refine ⟨b_in (by omega) (by omega), fun q' z ez => ?_, fun q' z ez => ?_⟩
          · have hq : x_rk b (x_t S e) ≤ v := Classical.byContradiction (fun z => nI_ge (show v < x_rk b (x_t S e) by omega) (by have := x_rkr hb S; have := x_rkn (b := b) S; have := x_nle S; omega) q')
            rw [ez, nI_1]
            refine ihw (e + 1) v (by omega) v1 v2 (fun e' q1 q2 => ?_)
            by_cases z : e' = e
            · rw [z]; exact hq
            · exact v3 e' (by omega) q2
          · have hq : v < x_rk b (x_t S e) := Classical.byContradiction (fun z => q' (nI_le (by omega) (by omega)))
            rw [ez, nI_1]
            refine ihw (e + 1) _ (by omega) hle (fun z => by have := v2 z; omega) (fun e' q1 q2 => ?_)
            by_cases z : e' = e
            · rw [z]; exact Nat.le_refl _
            · have := v3 e' (by omega) q2; omega
    unfold w69_L253 w69_L287
    rw [b_i4, nI_clamp (show 4096 * m + S < 2 ^ 31 by omega), nI_clamp (show S < 2 ^ 31 by omega), h2 S (Nat.le_refl S) hSn, hT.2 S (by omega)]
    refine ⟨fun w => absurd w (nI_ge (by omega) (by omega)), fun _ => ⟨b_in (by omega) (by omega), fun w => ⟨n + 1, ?_⟩, fun w => ⟨b_in (by omega) (by omega), n + 1, ?_⟩⟩⟩
    · have q : ¬ x_rk b S = x_n S := fun q => w (if_pos q)
      exact inner n 0 0 (by omega) (Nat.zero_le _) (fun z => absurd z q) (fun e' z => absurd z (Nat.not_lt_zero e'))
    · have q : x_rk b S = x_n S := Classical.byContradiction (fun q => by rw [if_neg q] at w; exact t_10 w.symm)
      exact inner n 0 (x_n S) (by omega) (by omega) (fun _ => Nat.le_refl _) (fun e' z => absurd z (Nat.not_lt_zero e'))
end RME
