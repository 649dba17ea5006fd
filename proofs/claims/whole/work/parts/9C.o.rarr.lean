/-! PURE, the reference: arrange -/
theorem x_cnS {n S : Nat} (hn : n ≤ 12) (hS : S < 2 ^ n) : x_cn n (fun i => S.testBit i) = x_n S := by
  show _ = x_cn 12 (fun i => S.testBit i)
  have := x_cnadd (fun i => S.testBit i) n (12 - n)
  rw [show n + (12 - n) = 12 by omega] at this
  rw [this, x_cnzz (12 - n) (fun i _ => x_hi hS (by omega)), Nat.add_zero]
theorem x_cnn2 (f : Nat → Bool) : ∀ n, x_cn n f + x_cn n (fun i => !f i) = n
  | 0 => rfl
  | n + 1 => by
    have ih := x_cnn2 f n
    show x_cn n f + (if f n = true then 1 else 0) + (x_cn n (fun i => !f i) + (if (!f n) = true then 1 else 0)) = n + 1
    cases f n
    · show x_cn n f + 0 + (x_cn n (fun i => !f i) + 1) = n + 1
      omega
    · show x_cn n f + 1 + (x_cn n (fun i => !f i) + 0) = n + 1
      omega
theorem x_cnm (f : Nat → Bool) {a b : Nat} (h : a ≤ b) : x_cn a f ≤ x_cn b f := by
  have := x_cnadd f a (b - a)
  rw [show a + (b - a) = b by omega] at this
  omega
section RAR
variable {p n n' r m S : Nat} {K : Nat → Nat → Int} {κ : Nat → Nat} {iv gs ge gf gr gk gq gz : Nat → Int32} {nv : Nat → px_NV}
/-- one pass over the elements: those of E go to the columns from t0 on -/
theorem r_pass {K53 : Int32 → Int32 → Int32 → Int32 → Int32 → (Nat → Int32) → (Nat → Int32) → (Nat → Int32) → (Nat → Int32) → (Nat → Int32) → (Nat → Int32) → (Nat → Int32) → (Nat → Int32) → (Nat → px_NV) → Prop} {K76 : Int32 → Int32 → Int32 → Int32 → Int32 → Int32 → Int32 → (Nat → Int32) → (Nat → Int32) → (Nat → Int32) → (Nat → Int32) → (Nat → Int32) → (Nat → Int32) → (Nat → Int32) → (Nat → Int32) → (Nat → px_NV) → Prop} {post : (Nat → Int32) → (Nat → Int32) → (Nat → Int32) → (Nat → Int32) → (Nat → Int32) → (Nat → Int32) → (Nat → Int32) → (Nat → Int32) → (Nat → px_NV) → Prop} {x3 x4 sd : Int32} {E : Nat → Bool} {t0 i : Nat} (hp : p < 256) (hiv : iv 12 = nI p) (hm : m < 26) (hn : n ≤ 12) (hn' : n' ≤ 12) (hi : i < r) (hr : r ≤ 12) (hge : ge m = nI n) (hE : ∀ j, j < n → (((nI S >>> (nI j &&& 31)) &&& 1) = sd ↔ E j = true)) (hκ : ∀ j, j < n → E j = true → κ (t0 + x_cn j E) = j) (ht : t0 + x_cn n E ≤ n') (hK : ∀ i, i < r → ∀ j, j < n → r_ke p gk gq (144 * m + 12 * i + j) (K i j))
    (h : ∀ gs2 nv2, r_X p n' i gs2 nv2 (fun i j => K i (κ j)) → (∀ j', j' < t0 + x_cn n E → r_e p gs2 nv2 (12 * i + j') (K i (κ j'))) → K76 (nI m) (nI S) x3 x4 (nI i) (nI (t0 + x_cn n E)) (sd + (-1)) iv gs2 ge gf gr gk gq gz nv2) : ∀ (u j : Nat) (gs1 : Nat → Int32) (nv1 : Nat → px_NV), j + u = n → r_X p n' i gs1 nv1 (fun i j => K i (κ j)) → (∀ j', j' < t0 + x_cn j E → r_e p gs1 nv1 (12 * i + j') (K i (κ j'))) → w93_L84 K53 K76 post (u + 1) (nI m) (nI S) x3 x4 (nI i) (nI (t0 + x_cn j E)) sd (nI j) iv gs1 ge gf gr gk gq gz nv1 := by
  intro u
  induction u with
  | zero =>
    intro j gs1 nv1 hj hX hC
    have : j = n := by omega
    subst this
    unfold w93_L84
    rw [nI_clamp (show m < 2 ^ 31 by omega), hge]
    refine ⟨b_in hm (by omega), fun _ z e => ?_, fun w => absurd (nI_le (Nat.le_refl j) (by omega)) w⟩
    rw [e]
    exact h gs1 nv1 hX hC
  | succ u ih =>
    intro j gs1 nv1 hj hX hC
    have hs : x_cn (j + 1) E = x_cn j E + (if E j = true then 1 else 0) := rfl
    have hle := x_cnm E (show j + 1 ≤ n by omega)
    unfold w93_L84 w93_L122
    rw [nI_clamp (show m < 2 ^ 31 by omega), hge]
    refine ⟨b_in hm (by omega), fun w => absurd w (nI_ge (by omega) (by omega)), fun _ => ⟨fun w z e => ?_, fun w => ?_⟩⟩
    · have hq : ¬ E j = true := fun q => w ((hE j (by omega)).2 q)
      rw [if_neg hq, Nat.add_zero] at hs
      rw [e, nI_1]
      have := ih (j + 1) gs1 nv1 (by omega) hX (by rw [hs]; exact hC)
      rw [hs] at this; exact this
    · have hq : E j = true := (hE j (by omega)).1 w
      rw [if_pos hq] at hs
      refine r_cell hp hiv hm (by omega) (by omega) (by omega) (by omega) (hK i hi j (by omega)) (fun gs3 nv3 k1 k2 k3 k4 z9 e9 z e => ?_)
      rw [e, e9, nI_1, nI_1, show t0 + x_cn j E + 1 = t0 + x_cn (j + 1) E by omega]
      refine ih (j + 1) gs3 nv3 (by omega) (r_Xk (by omega) hn' hX (show t0 + x_cn j E < n' by omega) k1 k2 k4) (fun j' hj' => ?_)
      by_cases q : j' = t0 + x_cn j E
      · rw [q, hκ j (by omega) hq]; exact k3
      · exact r_ek (d' := 0) (hC j' (by omega)) (k1 _ (by omega)) (k2 _ (by omega))
theorem r_arrange {post : (Nat → Int32) → (Nat → Int32) → (Nat → Int32) → (Nat → Int32) → (Nat → Int32) → (Nat → Int32) → (Nat → Int32) → (Nat → Int32) → (Nat → px_NV) → Prop} {wi : Bool} (hp : p < 256) (hm : m < 26) (hn : n ≤ 12) (hr : r ≤ 12) (hS : S < 2 ^ n) (hge : ge m = nI n) (hgf : gf m = nI p) (hgr : gr m = nI r) (hgz : ∀ S, S < 4096 → gz S = nI (x_n S)) (hn' : n' = if wi = true then n else n - x_n S) (hκ0 : ∀ j, j < n → S.testBit j = false → κ ((if wi = true then x_n S else 0) + x_cn j (fun i => !S.testBit i)) = j) (hκ1 : wi = true → ∀ j, j < n → S.testBit j = true → κ (x_cn j (fun i => S.testBit i)) = j) (hK : ∀ i, i < r → ∀ j, j < n → r_ke p gk gq (144 * m + 12 * i + j) (K i j)) (hV : r_V nv)
    (h : ∀ iv' gs' nv', iv' 12 = nI p → iv' 11 = nI n' → iv' 10 = nI r → (∀ q, q ≠ 10 → q ≠ 11 → q ≠ 12 → iv' q = iv q) → r_X p n' r gs' nv' (fun i j => K i (κ j)) → post iv' gs' ge gf gr gk gq gz nv') : w93_wp post (nI m) (nI S) (if wi = true then 1 else 0) iv gs ge gf gr gk gq gz nv := by
  have hS12 : S < 4096 := Nat.lt_of_lt_of_le hS (Nat.pow_le_pow_right (by decide) hn)
  have hc := x_cnS hn hS
  have hcN := x_cnn2 (fun i => S.testBit i) n
  rw [hc] at hcN
  have hn12 : n' ≤ 12 := by
    rw [hn']
    split <;> omega
  have hin : vp_in (nI m) 26 := b_in hm (by omega)
  have main : w93_L26 post (nI m) (nI S) (if wi = true then 1 else 0) (nI n') iv gs ge gf gr gk gq gz nv := by
    unfold w93_L26
    rw [nI_clamp (show m < 2 ^ 31 by omega), hgf]
    refine ⟨hin, hin, fun z13 e13 => ⟨r + 1, ?_⟩⟩
    rw [hgr] at e13
    subst e13
    have v12 : va_up (va_up (va_up (va_up iv 12 (nI p)) 11 (nI n')) 10 0) 10 (nI r) 12 = nI p := by
      rw [va_up_ne _ _ (by decide), va_up_ne _ _ (by decide), va_up_ne _ _ (by decide), va_up_self]
    have v11 : va_up (va_up (va_up (va_up iv 12 (nI p)) 11 (nI n')) 10 0) 10 (nI r) 11 = nI n' := by
      rw [va_up_ne _ _ (by decide), va_up_ne _ _ (by decide), va_up_self]
    have v10 : va_up (va_up (va_up (va_up iv 12 (nI p)) 11 (nI n')) 10 0) 10 (nI r) 10 = nI r := va_up_self _ _ _
    have vq : ∀ q, q ≠ 10 → q ≠ 11 → q ≠ 12 → va_up (va_up (va_up (va_up iv 12 (nI p)) 11 (nI n')) 10 0) 10 (nI r) q = iv q := fun q q1 q2 q3 => by
      rw [va_up_ne _ _ q1, va_up_ne _ _ q1, va_up_ne _ _ q2, va_up_ne _ _ q3]
    generalize va_up (va_up (va_up (va_up iv 12 (nI p)) 11 (nI n')) 10 0) 10 (nI r) = iv1 at *
    have rows : ∀ (u i : Nat) (gs1 : Nat → Int32) (nv1 : Nat → px_NV), i + u = r → r_X p n' i gs1 nv1 (fun i j => K i (κ j)) → w93_L53 post (u + 1) (nI m) (nI S) (if wi = true then 1 else 0) (nI n') (nI i) iv1 gs1 ge gf gr gk gq gz nv1 := by
      intro u
      induction u with
      | zero =>
        intro i gs1 nv1 hi hX
        have : i = r := by omega
        subst this
        exact ⟨fun _ => h iv1 gs1 nv1 v12 v11 v10 vq hX, fun w => absurd (by rw [v10]; exact nI_le (Nat.le_refl i) (by omega)) w⟩
      | succ u ih =>
        intro i gs1 nv1 hi hX
        have side0 : ∀ (v : Nat) (gs2 : Nat → Int32) (nv2 : Nat → px_NV), r_X p n' i gs2 nv2 (fun i j => K i (κ j)) → (∀ j', j' < (if wi = true then x_n S else 0) → r_e p gs2 nv2 (12 * i + j') (K i (κ j'))) → w93_L76 (w93_L53 post (u + 1)) post (v + 2) (nI m) (nI S) (if wi = true then 1 else 0) (nI n') (nI i) (nI (if wi = true then x_n S else 0)) 0 iv1 gs2 ge gf gr gk gq gz nv2 := fun v gs2 nv2 hX2 hC2 => by
          refine ⟨fun w => absurd w (by decide), fun _ => ⟨n + 1, ?_⟩⟩
          have hp0 := r_pass (K53 := w93_L53 post (u + 1)) (K76 := w93_L76 (w93_L53 post (u + 1)) post (v + 1)) (post := post) (x3 := if wi = true then 1 else 0) (x4 := nI n') (sd := 0) (E := fun j => !S.testBit j) (t0 := if wi = true then x_n S else 0) (i := i) (gf := gf) (gr := gr) (gz := gz) (n' := n') (κ := κ) (r := r) (K := K) hp v12 hm hn hn12 (show i < r by omega) hr hge (fun j hj => by
            rw [b_bit0 (show S < 2 ^ 31 by omega) (by omega), Bool.not_eq_true']) (fun j hj hb => hκ0 j hj (by rw [← Bool.not_eq_true']; exact hb)) (by
            rw [hn']
            split <;> omega) hK (fun gs3 nv3 hX3 hC3 => ⟨fun _ z e => ?_, fun w => absurd (show (0 : Int32) + (-1) < 0 by decide) w⟩) n 0 gs2 nv2 (by omega) hX2 (by rw [show x_cn 0 (fun j => !S.testBit j) = 0 from rfl, Nat.add_zero]; exact hC2)
          · rw [show x_cn 0 (fun j => !S.testBit j) = 0 from rfl, Nat.add_zero] at hp0
            exact hp0
          · rw [e, nI_1]
            refine ih (i + 1) gs3 nv3 (by omega) ⟨hX3.1, fun i' hi' j' hj' => ?_⟩
            by_cases q : i' = i
            · subst q
              exact hC3 j' (by
                have : n' = (if wi = true then x_n S else 0) + x_cn n (fun j => !S.testBit j) := by
                  rw [hn']
                  split <;> omega
                omega)
            · exact hX3.2 i' (by omega) j' hj'
        refine ⟨fun w => absurd w (by rw [v10]; exact nI_ge (by omega) (by omega)), fun _ => ?_⟩
        by_cases hw : wi = true
        · rw [if_pos hw]
          refine ⟨fun w => absurd w (by decide), fun _ => ⟨3, ?_⟩⟩
          refine ⟨fun w => absurd w (by decide), fun _ => ⟨n + 1, ?_⟩⟩
          have hp1 := r_pass (K53 := w93_L53 post (u + 1)) (K76 := w93_L76 (w93_L53 post (u + 1)) post 2) (post := post) (x3 := 1) (x4 := nI n') (sd := 1) (E := fun j => S.testBit j) (t0 := 0) (i := i) (gf := gf) (gr := gr) (gz := gz) (n' := n') (κ := κ) (r := r) (K := K) hp v12 hm hn hn12 (show i < r by omega) hr hge (fun j hj => b_bit1 (show S < 2 ^ 31 by omega) (by omega)) (fun j hj hb => by rw [Nat.zero_add]; exact hκ1 hw j hj hb) (by
            rw [hn', if_pos hw]; omega) hK (fun gs3 nv3 hX3 hC3 => ?_) n 0 gs1 nv1 (by omega) hX (fun j' hj' => absurd hj' (by rw [show x_cn 0 (fun j => S.testBit j) = 0 from rfl]; omega))
          · rw [show x_cn 0 (fun j => S.testBit j) = 0 from rfl, Nat.add_zero] at hp1
            exact hp1
          · have hs := side0 0 gs3 nv3 hX3 (fun j' hj' => hC3 j' (by rw [if_pos hw] at hj'; omega))
            rw [if_pos hw, if_pos hw] at hs
            rw [hc, Nat.zero_add, show (1 : Int32) + (-1) = 0 by decide]
            exact hs
        · rw [if_neg hw]
          refine ⟨fun _ => ⟨2, ?_⟩, fun w => absurd rfl w⟩
          have hs := side0 0 gs1 nv1 hX (fun j' hj' => absurd hj' (by rw [if_neg hw]; omega))
          rw [if_neg hw, if_neg hw] at hs
          exact hs
    exact rows r 0 gs nv (by omega) ⟨hV, fun i hi => absurd hi (Nat.not_lt_zero i)⟩
  by_cases hw : wi = true
  · rw [if_pos hw] at main hn' ⊢
    refine ⟨fun w => absurd w (by decide), fun _ => ⟨hin, ?_⟩⟩
    rw [nI_clamp (show m < 2 ^ 31 by omega), hge, ← hn']
    exact main
  · rw [if_neg hw] at main hn' ⊢
    refine ⟨fun _ => ⟨hin, b_in (by omega) (by omega), ?_⟩, fun w => absurd rfl w⟩
    rw [nI_clamp (show m < 2 ^ 31 by omega), nI_clamp (show S < 2 ^ 31 by omega), hge, hgz S hS12, nI_subn (by omega), ← hn']
    exact main
end RAR
