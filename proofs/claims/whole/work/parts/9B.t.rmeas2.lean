/-! PURE, the reference: measure -/
section RMF
variable {n r : Nat} {b : Nat → Bool} {iv gs gp fr fc gm gS go gz : Nat → Int32} {nv : Nat → px_NV} {m : Nat}
theorem r_m2 {post : (Nat → Int32) → (Nat → Int32) → (Nat → Int32) → (Nat → Int32) → (Nat → Int32) → (Nat → Int32) → (Nat → Int32) → (Nat → Int32) → (Nat → Int32) → (Nat → Int32) → (Nat → px_NV) → Prop} {x3 : Int32} {gR0 : Nat → Int32} (hb : x_M n r b) (hm : m < 26) (hiv : iv 11 = nI n) (hiv0 : iv 10 = nI r) (hT : r_T go gz) (hbs : ∀ S, S < 2 ^ n → (b S = true ↔ x_n S = r ∧ ¬ gS (4096 * m + S) = 0)) (h : ∀ gR', (∀ T, T < 2 ^ n → gR' (4096 * m + T) = nI (x_rk b T)) → (∀ q, (q < 4096 * m ∨ 4096 * m + 2 ^ n ≤ q) → gR' q = gR0 q) → post iv gs gp fr fc gm gR' gS go gz nv) : ∀ (i : Nat) (gR : Nat → Int32), i ≤ 2 ^ n → (∀ T, i ≤ T → T < 2 ^ n → gR (4096 * m + T) = if x_rk b T = x_n T then 1 else 0) → (∀ q, (q < 4096 * m ∨ 4096 * m + 2 ^ n ≤ q) → gR q = gR0 q) → w69_L116 post (i + 1) (nI m) (nI (2 ^ n)) x3 (nI i - 1) iv gs gp fr fc gm gR gS go gz nv := by
  have hn := hb.1
  have hp := b_p12 hn
  have hrn : r ≤ 12 := by
    obtain ⟨B, hB⟩ := hb.2.1
    have := (hb.2.2.1 B hB).2
    have := x_nle B
    omega
  intro i
  induction i with
  | zero =>
    intro gR _ h1 h2
    refine ⟨fun _ => ⟨2 ^ n + 1, ?_⟩, fun w => absurd (by decide) w⟩
    exact r_m3 hb hm hiv hT h (2 ^ n) 0 gR (by omega) (fun T q => absurd q (Nat.not_lt_zero T)) (fun T q1 q2 => h1 T q1 q2) h2
  | succ S ih =>
    intro gR hS h1 h2
    have hSn : S < 2 ^ n := by omega
    have fin : ∀ y0 : Int32, y0 = (if x_rk b S = x_n S then 1 else 0) → ∀ x5 x6, w69_L242 (w69_L116 post (S + 1)) post (nI m) (nI (2 ^ n)) x3 (nI S) x5 x6 y0 (nI (4096 * m + S)) iv gs gp fr fc gm gR gS go gz nv := by
      intro y0 ey x5 x6
      refine ⟨b_in (by omega) (by omega), fun z3 e3 => ?_⟩
      have e3 : z3 = nI S - 1 := by rw [e3]; grind
      have hnar : vp_nar .byte y0.toInt8.toInt32 = y0 := by
        rw [ey]
        split
        · exact b_byte 1 (by decide)
        · exact b_byte 0 (by decide)
      rw [e3, hnar, nI_clamp (show 4096 * m + S < 2 ^ 31 by omega)]
      refine ih _ (by omega) (fun T q1 q2 => ?_) (fun q w => ?_)
      · by_cases z : T = S
        · rw [z, pk_us]; exact ey
        · rw [pk_un (by omega)]; exact h1 T (by omega) q2
      · rw [pk_un (by omega)]; exact h2 q w
    have fin2 : ∀ x5 x6 : Int32, (x5 = (if x_rk b S = x_n S then 1 else 0)) → w69_L220 (w69_L116 post (S + 1)) post (nI m) (nI (2 ^ n)) x3 (nI S) x5 x6 iv gs gp fr fc gm gR gS go gz nv := by
      intro x5 x6 e5
      unfold w69_L220
      rw [b_i4]
      refine ⟨fun w => fin 0 ?_ _ _, fun w => fin 1 ?_ _ _⟩
      · rw [← e5, w]
      · rw [e5] at w
        rw [if_pos (Classical.byContradiction (fun q => w (if_neg q)))]
    -- free already
    have one : ∀ e : Nat, x_rk b S = x_n S → w69_L161 (w69_L116 post (S + 1)) post 1 (nI m) (nI (2 ^ n)) x3 (nI S) 1 (nI e) iv gs gp fr fc gm gR gS go gz nv := by
      intro e q
      refine ⟨fun _ => fin2 1 _ (by rw [if_pos q]), fun _ => ⟨fun _ => fin2 1 _ (by rw [if_pos q]), fun w => absurd w t_10⟩⟩
    have inner : ∀ (w e : Nat), e + w = n → ¬ b S = true → (∀ e', e' < e → S.testBit e' = false → ¬ x_rk b (x_t S e') = x_n (x_t S e')) → w69_L161 (w69_L116 post (S + 1)) post (w + 1) (nI m) (nI (2 ^ n)) x3 (nI S) 0 (nI e) iv gs gp fr fc gm gR gS go gz nv := by
      intro w
      induction w with
      | zero =>
        intro e he hbS hno
        have : e = n := by omega
        subst this
        have q : ¬ x_rk b S = x_n S := fun q => by
          obtain ⟨e', q1, q2, q3⟩ := x_frx hb hSn q hbS
          exact hno e' q1 q2 q3
        refine ⟨fun _ => fin2 0 _ (by rw [if_neg q]), fun w => absurd (by rw [hiv]; exact nI_le (Nat.le_refl e) (by omega)) w⟩
      | succ w ihw =>
        intro e he hbS hno
        have skip : (S.testBit e = false → ¬ x_rk b (x_t S e) = x_n (x_t S e)) → ∀ z4 : Int32, z4 = nI e + 1 → w69_L161 (w69_L116 post (S + 1)) post (w + 1) (nI m) (nI (2 ^ n)) x3 (nI S) 0 z4 iv gs gp fr fc gm gR gS go gz nv := by
          intro q z4 e4
          rw [e4, nI_1]
          refine ihw (e + 1) (by omega) hbS (fun e' q1 q2 => ?_)
          by_cases z : e' = e
          · rw [z] at q2 ⊢; exact q q2
          · exact hno e' (by omega) q2
        unfold w69_L161 w69_L211 w69_L212
        rw [b_bit0 (show S < 2 ^ 31 by omega) (show e < 32 by omega), b_sh (by omega), b_or]
        refine ⟨fun w => absurd w (by rw [hiv]; exact nI_ge (by omega) (by omega)), fun _ => ⟨fun w => absurd rfl w, fun _ => ⟨fun q => skip (fun z => absurd z q), fun q => ?_⟩⟩⟩
        have hto := x_tor0 q
        have hlt := x_tl hSn (show e < n by omega)
        have hgt : S < x_t S e := by
          rw [← hto]
          have h1 : S ≤ S ||| 2 ^ e := Nat.left_le_or
          have h2 : S ≠ S ||| 2 ^ e := fun z => by
            have := congrArg (fun t => t.testBit e) z
            simp only [Nat.testBit_or, q, Nat.testBit_two_pow_self] at this
            exact Bool.noConfusion this
          omega
        rw [hto, b_i4 (S := x_t S e), nI_clamp (show 4096 * m + x_t S e < 2 ^ 31 by omega), h1 _ (by omega) hlt]
        refine ⟨b_in (by omega) (by omega), fun z => skip (fun _ y => z (if_pos y)), fun z z4 e4 => ?_⟩
        have y : x_rk b (x_t S e) = x_n (x_t S e) := Classical.byContradiction (fun y => by rw [if_neg y] at z; exact t_10 z.symm)
        rw [e4, nI_1]
        have := one (e + 1) (x_frs hb (by omega) q y)
        cases w with
        | zero => exact this
        | succ w =>
          unfold w69_L161 at this ⊢
          exact ⟨this.1, fun z => ⟨(this.2 z).1, fun w' => absurd w' t_10⟩⟩
    have hn155 : ¬ b S = true → w69_L155 (w69_L116 post (S + 1)) post (nI m) (nI (2 ^ n)) x3 (nI S) iv gs gp fr fc gm gR gS go gz nv := fun hbS => ⟨n + 1, inner n 0 (by omega) hbS (fun e' z => absurd z (Nat.not_lt_zero e'))⟩
    unfold w69_L116
    rw [nI_pred, b_i4, nI_clamp (show S < 2 ^ 31 by omega), nI_clamp (show 4096 * m + S < 2 ^ 31 by omega), hT.2 S (by omega), hiv0]
    have hnl := x_nle S
    refine ⟨fun w => absurd w (nI_pos (by omega)), fun _ => ⟨b_in (by omega) (by omega), fun w => hn155 (fun z => w (by rw [((hbs S hSn).1 z).1])), fun w => ⟨b_in (by omega) (by omega), fun w' => hn155 (fun z => ((hbs S hSn).1 z).2 w'), fun w' => ⟨1, ?_⟩⟩⟩⟩
    have q : x_n S = r := (nI_eq (by omega) (by omega)).1 w
    have hbS : b S = true := (hbs S hSn).2 ⟨q, w'⟩
    exact one 0 (x_indr hb hbS (fun _ _ hi => hi))
/-- the first value that is not 0, of the first k sets in ORDER -/
def x_fst (n r : Nat) (F : Nat → Int32) : Nat → Int32
  | 0 => 0
  | k + 1 => if x_or 12 k < 2 ^ n then (if x_fst n r F k = 0 then (if x_n (x_or 12 k) = r then F (x_or 12 k) else 0) else x_fst n r F k) else x_fst n r F k
theorem x_fstk {F : Nat → Int32} {k : Nat} (h : ¬ x_fst n r F k = 0) : ∀ u, x_fst n r F (k + u) = x_fst n r F k
  | 0 => rfl
  | u + 1 => by
    have ih := x_fstk h u
    show (if x_or 12 (k + u) < 2 ^ n then (if x_fst n r F (k + u) = 0 then _ else x_fst n r F (k + u)) else x_fst n r F (k + u)) = _
    rw [ih, if_neg h]
    split <;> rfl
/-- the signs as they are written -/
def x_sgn2 (p n r : Nat) (F : Nat → Int32) (S : Nat) : Int32 := if x_n S = r then (if p = 0 then F S * x_fst n r F 4096 else F S) else 0
end RMF
