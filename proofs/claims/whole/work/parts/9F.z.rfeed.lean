/-! PURE, the reference: feed, end, out -/
section RFD
variable {iv ca sh : Nat → Int32} {L : Nat}
theorem r_tk4 {post : (Nat → Int32) → (Nat → Int32) → Prop} {v : Int32} (h51 : iv 51 = nI L) (hL : L + 4 ≤ 16384) (h : ∀ iv', iv' 51 = nI (L + 4) → (∀ q, q ≠ 51 → iv' q = iv q) → post iv' (x_f4 ca L v)) : mtk_wp post v iv ca := by
  refine ⟨5, ?_⟩
  refine ⟨fun z => absurd z (by decide), fun _ => ⟨by rw [h51]; exact b_in (by omega) (by omega), fun z1 e1 z2 e2 => ?_⟩⟩
  rw [h51, nI_1] at e1
  rw [h51, nI_clamp (show L < 2 ^ 31 by omega)]
  rw [show (24 : Int32) + (-8) = 16 by decide] at e2
  subst e1 e2
  refine ⟨fun z => absurd z (by decide), fun _ => ⟨by rw [va_up_self]; exact b_in (by omega) (by omega), fun z1 e1 z2 e2 => ?_⟩⟩
  rw [va_up_self, nI_1] at e1
  rw [va_up_self, nI_clamp (show L + 1 < 2 ^ 31 by omega)]
  rw [show (16 : Int32) + (-8) = 8 by decide] at e2
  subst e1 e2
  refine ⟨fun z => absurd z (by decide), fun _ => ⟨by rw [va_up_self]; exact b_in (by omega) (by omega), fun z1 e1 z2 e2 => ?_⟩⟩
  rw [va_up_self, nI_1] at e1
  rw [va_up_self, nI_clamp (show L + 1 + 1 < 2 ^ 31 by omega)]
  rw [show (8 : Int32) + (-8) = 0 by decide] at e2
  subst e1 e2
  refine ⟨fun z => absurd z (by decide), fun _ => ⟨by rw [va_up_self]; exact b_in (by omega) (by omega), fun z1 e1 z2 e2 => ?_⟩⟩
  rw [va_up_self, nI_1] at e1
  rw [va_up_self, nI_clamp (show L + 1 + 1 + 1 < 2 ^ 31 by omega)]
  rw [show (0 : Int32) + (-8) = -8 by decide] at e2
  subst e1 e2
  refine ⟨fun _ => ?_, fun z => absurd (by decide) z⟩
  exact h _ (va_up_self _ _ _) (fun q q1 => by rw [va_up_ne _ _ q1, va_up_ne _ _ q1, va_up_ne _ _ q1, va_up_ne _ _ q1])
theorem r_feed {post : (Nat → Int32) → (Nat → Int32) → Prop} {v1 v2 v3 v4 v5 : Int32} (h51 : iv 51 = nI L) (hL : L ≤ 16384)
    (h0 : 16384 < L + 20 → post (va_up iv 49 1) ca)
    (h1 : L + 20 ≤ 16384 → ∀ iv', iv' 49 = 0 → iv' 51 = nI (L + 20) → (∀ q, q ≠ 49 → q ≠ 51 → iv' q = iv q) → post iv' (x_f20 ca L v1 v2 v3 v4 v5)) : mfe_wp post v1 v2 v3 v4 v5 iv ca := by
  unfold mfe_wp mfe_L19 mfe_L56
  rw [h51, show nI L + 20 = nI (L + 20) from by rw [show (20 : Int32) = nI 20 from rfl, nI_add]]
  refine ⟨fun w => ?_, fun w => ?_⟩
  · have hl : L + 20 ≤ 16384 := (nI_leI (b := 16384) (by omega) (by decide)).1 w
    refine ⟨fun q => absurd rfl q, fun _ => ?_⟩
    refine r_tk4 (L := L) (by rw [va_up_ne _ _ (by decide)]; exact h51) (by omega) (fun w1 a1 b1 => r_tk4 (L := L + 4) a1 (by omega) (fun w2 a2 b2 => r_tk4 (L := L + 8) a2 (by omega) (fun w3 a3 b3 => r_tk4 (L := L + 12) a3 (by omega) (fun w4 a4 b4 => r_tk4 (L := L + 16) a4 (by omega) (fun w5 a5 b5 => ?_)))))
    have hq : ∀ q, q ≠ 51 → w5 q = va_up iv 49 0 q := fun q q1 => by rw [b5 q q1, b4 q q1, b3 q q1, b2 q q1, b1 q q1]
    exact h1 hl w5 (by rw [hq 49 (by decide), va_up_self]) a5 (fun q q1 q2 => by rw [hq q q2, va_up_ne _ _ q1])
  · have hl : 16384 < L + 20 := Classical.byContradiction (fun z => w (nI_le (b := 16384) (by omega) (by decide)))
    exact ⟨fun _ => h0 hl, fun q => t_10 q⟩
theorem r_end {post : Int32 → (Nat → Int32) → Prop} {x : Int32} (h51 : iv 51 = nI L)
    (h0 : (x < 0 ∨ ¬ x ≤ nI L) → post 0 (va_up iv 49 1)) (h1 : ¬ x < 0 → x ≤ nI L → post (nI L) (va_up (va_up iv 49 0) 51 x)) : men_wp post x iv := by
  have no : (x < 0 ∨ ¬ x ≤ nI L) → men_L13 post x iv := fun w => ⟨fun q => absurd q (by decide), fun _ => h0 w⟩
  refine ⟨fun w => no (Or.inl w), fun w => ?_⟩
  rw [h51]
  exact ⟨fun w2 => ⟨fun _ z1 e1 => (by rw [e1, h51]; exact h1 w w2), fun q => absurd (Int32.le_refl 0) q⟩, fun w2 => no (Or.inr w2)⟩
theorem r_out {post : Int32 → (Nat → Int32) → (Nat → Int32) → Prop} {x : Int32} {U : List Nat} (hU : rp_T iv sh U)
    (h : post (if x < 0 then -1 else match U[x.toNatClampNeg]? with | none => -1 | some v => nI v) (va_up iv 49 0) sh) : mou_wp post x iv sh := by
  obtain ⟨u1, u2, u3⟩ := hU
  unfold mou_wp mou_L26 mou_L27
  refine ⟨fun z => ?_, fun z => ?_⟩
  · rw [if_pos z] at h; exact h
  · rw [if_neg z] at h
    obtain ⟨k, hk, ek⟩ := nI_of z
    subst ek
    rw [nI_clamp hk] at h ⊢
    rw [u2]
    refine ⟨fun w => ?_, fun w => ?_⟩
    · have hw := (nI_leI (show U.length < 2 ^ 31 by omega) hk).1 w
      rw [List.getElem?_eq_none (by omega)] at h
      exact h
    · have hw : k < U.length := Classical.byContradiction (fun y => w (nI_le (by omega) hk))
      have e := List.getElem?_eq_getElem hw
      rw [e] at h
      refine ⟨b_in (by omega) hk, ?_⟩
      rw [u3 k _ e]
      exact h
end RFD
