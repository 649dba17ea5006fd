/-! PURE, the reference: what is asked of two matroids -/
section RA2
variable {iv gth ge gf gr gk gq gw gR gS go gz gt gi gx : Nat → Int32} {lt : Nat → Option x_LR} {m m2 : Int32}
theorem r_I0U {iv' : Nat → Int32} (h : r_I0 (va_up iv 49 0) iv') : r_I0 iv iv' := ⟨h.1, fun q q1 q2 q3 => by rw [h.2 q q1 q2 q3, va_up_ne _ _ q1]⟩
theorem r_qCo {post : Int32 → (Nat → Int32) → (Nat → Int32) → (Nat → Int32) → (Nat → Int32) → (Nat → Int32) → (Nat → Int32) → Prop} (hT : r_T go gz) (hLT : r_LT lt gth ge gf gr gk gq gw gR gS)
    (h0 : (∀ A B, x_lt lt m = some A → x_lt lt m2 = some B → ¬ A.2.1 = B.2.1) → ∀ iv', r_I0 iv iv' → post (-1) iv' gth ge gR go gz)
    (h1 : ∀ A B T, x_lt lt m = some A → x_lt lt m2 = some B → A.2.1 = B.2.1 → x_top A.2.1 (x_cp (x_bg A.1 A.2.2.2.1) (x_bg B.1 B.2.2.2.1)) T → ∀ iv', r_I0 iv iv' → post (nI T) iv' gth ge gR go gz) : w127_wp post m m2 iv gth ge gR go gz := by
  unfold w127_wp w127_L40 w127_L41
  refine r_isq hLT (fun z => ⟨fun _ => h0 (fun A B e => by rw [z] at e; cases e) _ r_I49, fun w => absurd rfl w⟩) (fun f A hf ef z hG _ _ => ⟨fun w => t_10 w, fun _ => ?_⟩)
  refine r_isq hLT (fun z2 => ⟨fun _ => h0 (fun A B _ e => by rw [z2] at e; cases e) _ (r_I0U r_I49), fun w => absurd rfl w⟩) (fun f2 B hf2 ef2 z2 hG2 _ _ => ⟨fun w => t_10 w, fun _ => ?_⟩)
  subst ef ef2
  have hn := hG.1.1
  have hn2 := hG2.1.1
  rw [nI_clamp (show f < 2 ^ 31 by omega), nI_clamp (show f2 < 2 ^ 31 by omega), (r_gth1 hG).2.2.1, (r_gth1 hG2).2.2.1]
  refine ⟨b_in hf (by omega), b_in hf2 (by omega), fun w => h0 (fun A' B' e e2 w2 => ?_) _ (r_I0U r_I49), fun w => ?_⟩
  · rw [z] at e; rw [z2] at e2; cases e; cases e2
    exact w (by rw [w2])
  · have en : A.2.1 = B.2.1 := (nI_eq (by omega) (by omega)).1 w
    have hD := (r_GD hG).1
    have hD2 := (r_GD hG2).1
    rw [← en] at hD2
    exact r_common hD hD2 hT (fun T hTop => h1 A B T z z2 en hTop _ (r_I0U r_I49))
theorem r_qCv {post : Int32 → (Nat → Int32) → (Nat → Int32) → (Nat → Int32) → (Nat → Int32) → (Nat → Int32) → (Nat → Int32) → Prop} (hT : r_T go gz) (hLT : r_LT lt gth ge gf gr gk gq gw gR gS)
    (h0 : (∀ A B, x_lt lt m = some A → x_lt lt m2 = some B → ¬ A.2.1 = B.2.1) → ∀ iv', r_I0 iv iv' → post (-1) iv' gth ge gR go gz)
    (h1 : ∀ A B T, x_lt lt m = some A → x_lt lt m2 = some B → A.2.1 = B.2.1 → x_top A.2.1 (x_cp (x_bg A.1 A.2.2.2.1) (x_bg B.1 B.2.2.2.1)) T → ∀ iv', r_I0 iv iv' → post (nI (x_cv (x_bg A.1 A.2.2.2.1) (x_bg B.1 B.2.2.2.1) A.2.1 (x_n T) (2 ^ A.2.1))) iv' gth ge gR go gz) : w128_wp post m m2 iv gth ge gR go gz := by
  unfold w128_wp w128_L40 w128_L41
  refine r_isq hLT (fun z => ⟨fun _ => h0 (fun A B e => by rw [z] at e; cases e) _ r_I49, fun w => absurd rfl w⟩) (fun f A hf ef z hG _ _ => ⟨fun w => t_10 w, fun _ => ?_⟩)
  refine r_isq hLT (fun z2 => ⟨fun _ => h0 (fun A B _ e => by rw [z2] at e; cases e) _ (r_I0U r_I49), fun w => absurd rfl w⟩) (fun f2 B hf2 ef2 z2 hG2 _ _ => ⟨fun w => t_10 w, fun _ => ?_⟩)
  subst ef ef2
  have hn := hG.1.1
  have hn2 := hG2.1.1
  rw [nI_clamp (show f < 2 ^ 31 by omega), nI_clamp (show f2 < 2 ^ 31 by omega), (r_gth1 hG).2.2.1, (r_gth1 hG2).2.2.1]
  refine ⟨b_in hf (by omega), b_in hf2 (by omega), fun w => h0 (fun A' B' e e2 w2 => ?_) _ (r_I0U r_I49), fun w => ?_⟩
  · rw [z] at e; rw [z2] at e2; cases e; cases e2
    exact w (by rw [w2])
  · have en : A.2.1 = B.2.1 := (nI_eq (by omega) (by omega)).1 w
    have hD := (r_GD hG).1
    have hD2 := (r_GD hG2).1
    rw [← en] at hD2
    exact r_cover hD hD2 hT (fun T hTop => h1 A B T z z2 en hTop _ (r_I0U r_I49))
theorem r_I0W {K c : Nat} : r_I0 iv (va_up (va_up (va_up (va_up iv 49 0) 49 0) 33 (nI K)) 32 (nI c)) := ⟨by rw [va_up_ne _ _ (by decide), va_up_ne _ _ (by decide), va_up_self], fun q q1 q2 q3 => by rw [va_up_ne _ _ q2, va_up_ne _ _ q3, va_up_ne _ _ q1, va_up_ne _ _ q1]⟩
theorem r_qK {post : Int32 → (Nat → Int32) → (Nat → Int32) → (Nat → Int32) → (Nat → Int32) → (Nat → Int32) → (Nat → Int32) → (Nat → Int32) → (Nat → Int32) → (Nat → Int32) → Prop} (hT : r_T go gz) (hLT : r_LT lt gth ge gf gr gk gq gw gR gS)
    (h0 : (x_lt lt m = none ∨ x_lt lt m2 = none) → ∀ iv', r_I0 iv iv' → post (-1) iv' gth ge gr gR go gz gi gx)
    (h1 : ∀ A B ans, x_lt lt m = some A → x_lt lt m2 = some B → x_aK (x_bg A.1 A.2.2.2.1) (x_bg B.1 B.2.2.2.1) A.2.1 B.2.1 ans → ∀ iv' gi' gx', r_I0 iv iv' → post ans iv' gth ge gr gR go gz gi' gx') : w131_wp post m m2 iv gth ge gr gR go gz gi gx := by
  unfold w131_wp w131_L32 w131_L33
  refine r_isq hLT (fun z => ⟨fun _ => h0 (Or.inl z) _ r_I49, fun w => absurd rfl w⟩) (fun f A hf ef z hG _ _ => ⟨fun w => t_10 w, fun _ => ?_⟩)
  refine r_isq hLT (fun z2 => ⟨fun _ => h0 (Or.inr z2) _ (r_I0U r_I49), fun w => absurd rfl w⟩) (fun f2 B hf2 ef2 z2 hG2 _ _ => ⟨fun w => t_10 w, fun _ => ?_⟩)
  subst ef ef2
  refine r_isMinor (r_GD hG).1 (r_GD hG2).1 hT (fun K c f gi' gx' hw hgi => ⟨fun w => t_10 w, fun _ => ?_⟩) (fun hno gi' gx' => ⟨fun _ => h1 A B (-1) z z2 (Or.inl ⟨hno, rfl⟩) _ _ _ (r_I0U r_I49), fun w => absurd rfl w⟩)
  rw [va_up_self]
  exact h1 A B (nI c) z z2 (Or.inr ⟨K, c, f, hw, rfl⟩) _ _ _ r_I0W
theorem b_dele {n K c : Nat} (hn : n ≤ 12) (hK : K < 2 ^ n) (hc : c < 2 ^ n) : (nI (2 ^ n - 1) &&& (nI c ^^^ (-1))) &&& (nI K ^^^ (-1)) = nI (x_co n (K ||| c)) := by
  have hp := b_p12 hn
  rw [b_coS hn hc, b_nand (Nat.lt_of_lt_of_le (x_col hc) (by omega)) (by omega)]
  congr 1
  have hKc : K ||| c < 2 ^ n := Nat.or_lt_two_pow hK hc
  have h12 : ∀ {x : Nat}, x < 2 ^ n → x < 2 ^ 12 := fun hx => Nat.lt_of_lt_of_le hx (Nat.pow_le_pow_right (by decide) hn)
  refine x_ext (Nat.xor_lt_two_pow (h12 (x_col hc)) (Nat.lt_of_le_of_lt Nat.and_le_left (h12 (x_col hc)))) (h12 (x_col hKc)) (fun j hj => ?_)
  rw [Nat.testBit_xor, Nat.testBit_and]
  by_cases q : j < n
  · rw [x_cob q, x_cob q, Nat.testBit_or]
    cases K.testBit j <;> cases c.testBit j <;> rfl
  · rw [x_hi (x_col hc) (by omega), x_hi (x_col hKc) (by omega)]; rfl
theorem r_qD {post : Int32 → (Nat → Int32) → (Nat → Int32) → (Nat → Int32) → (Nat → Int32) → (Nat → Int32) → (Nat → Int32) → (Nat → Int32) → (Nat → Int32) → (Nat → Int32) → Prop} (hT : r_T go gz) (hLT : r_LT lt gth ge gf gr gk gq gw gR gS)
    (h0 : (x_lt lt m = none ∨ x_lt lt m2 = none) → ∀ iv', r_I0 iv iv' → post (-1) iv' gth ge gr gR go gz gi gx)
    (h1 : ∀ A B ans, x_lt lt m = some A → x_lt lt m2 = some B → x_aD (x_bg A.1 A.2.2.2.1) (x_bg B.1 B.2.2.2.1) A.2.1 B.2.1 ans → ∀ iv' gi' gx', r_I0 iv iv' → post ans iv' gth ge gr gR go gz gi' gx') : w132_wp post m m2 iv gth ge gr gR go gz gi gx := by
  unfold w132_wp w132_L47 w132_L48
  refine r_isq hLT (fun z => ⟨fun _ => h0 (Or.inl z) _ r_I49, fun w => absurd rfl w⟩) (fun f A hf ef z hG _ _ => ⟨fun w => t_10 w, fun _ => ?_⟩)
  refine r_isq hLT (fun z2 => ⟨fun _ => h0 (Or.inr z2) _ (r_I0U r_I49), fun w => absurd rfl w⟩) (fun f2 B hf2 ef2 z2 hG2 _ _ => ⟨fun w => t_10 w, fun _ => ?_⟩)
  subst ef ef2
  have hD := (r_GD hG).1
  refine r_isMinor hD (r_GD hG2).1 hT (fun K c f gi' gx' hw hgi => ⟨fun w => t_10 w, fun _ => r_whole hD ?_⟩) (fun hno gi' gx' => ⟨fun _ => h1 A B (-1) z z2 (Or.inl ⟨hno, rfl⟩) _ _ _ (r_I0U r_I49), fun w => absurd rfl w⟩)
  obtain ⟨e1, e2, e3, e4, e5, e6, e7⟩ := hw.1
  rw [va_up_self, va_up_ne _ _ (show (33 : Nat) ≠ 32 by decide), va_up_self, b_dele hG.1.1 e1 e3]
  exact h1 A B _ z z2 (Or.inr ⟨K, c, f, hw, rfl⟩) _ _ _ r_I0W
theorem r_qI {post : Int32 → (Nat → Int32) → (Nat → Int32) → (Nat → Int32) → (Nat → Int32) → (Nat → Int32) → (Nat → Int32) → (Nat → Int32) → (Nat → Int32) → (Nat → Int32) → Prop} {e : Int32} (hT : r_T go gz) (hLT : r_LT lt gth ge gf gr gk gq gw gR gS)
    (h0 : (x_lt lt m = none ∨ ∀ B, x_lt lt m2 = some B → x_el B.2.1 e = none) → ∀ iv', r_I0 iv iv' → post (-1) iv' gth ge gr gR go gz gi gx)
    (h1 : ∀ A B E ans, x_lt lt m = some A → x_lt lt m2 = some B → x_el B.2.1 e = some E → x_aI (x_bg A.1 A.2.2.2.1) (x_bg B.1 B.2.2.2.1) A.2.1 B.2.1 E ans → ∀ iv' gi' gx', r_I0 iv iv' → post ans iv' gth ge gr gR go gz gi' gx') : w133_wp post m m2 e iv gth ge gr gR go gz gi gx := by
  unfold w133_wp w133_L48 w133_L49
  refine r_isq hLT (fun z => ⟨fun _ => h0 (Or.inl z) _ r_I49, fun w => absurd rfl w⟩) (fun f A hf ef z hG _ _ => ⟨fun w => t_10 w, fun _ => ?_⟩)
  refine r_isq hLT (fun z2 => ⟨fun _ => h0 (Or.inr (fun B e => by rw [z2] at e; cases e)) _ (r_I0U r_I49), fun w => absurd rfl w⟩) (fun f2 B hf2 ef2 z2 hG2 _ _ => ⟨fun w => t_10 w, fun _ => ⟨fun q => h0 (Or.inr (fun B' _ => ?_)) _ (r_I0U r_I49), fun q => ?_⟩⟩)
  · unfold x_el; rw [if_pos q]
  · obtain ⟨E, hE, eE⟩ := nI_of q
    subst ef ef2 eE
    have hn2 := hG2.1.1
    rw [nI_clamp (show f2 < 2 ^ 31 by omega), (r_gth1 hG2).2.2.1]
    refine ⟨b_in hf2 (by omega), fun w => h0 (Or.inr (fun B' e => ?_)) _ (r_I0U r_I49), fun w => ?_⟩
    · rw [z2] at e; cases e
      have := (nI_leI (by omega) hE).1 w
      unfold x_el
      rw [if_neg q, nI_clamp hE, if_neg (by omega)]
    · have hlt : E < B.2.1 := Classical.byContradiction (fun w2 => w (nI_le (by omega) hE))
      have hel : x_el B.2.1 (nI E) = some E := by
        unfold x_el
        rw [if_neg q, nI_clamp hE, if_pos hlt]
      refine r_isMinor (r_GD hG).1 (r_GD hG2).1 hT (fun K c f gi' gx' hw hgi => ⟨fun w => t_10 w, fun _ => ⟨b_in (by omega) hE, ?_⟩⟩) (fun hno gi' gx' => ⟨fun _ => h1 A B E (-1) z z2 hel (Or.inl ⟨hno, rfl⟩) _ _ _ (r_I0U r_I49), fun w => absurd rfl w⟩)
      rw [nI_clamp hE, hgi E hlt]
      exact h1 A B E _ z z2 hel (Or.inr ⟨K, c, f, hw, rfl⟩) _ _ _ r_I0W
end RA2
