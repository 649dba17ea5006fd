/-! PURE, the reference: isLike, isMinor -/
theorem x_pda : ∀ (l K S : Nat), K < 2 ^ l → x_pd l K S &&& K = x_pd l K S
  | 0, K, S, h => by
    have : K = 0 := by rw [Nat.pow_zero] at h; omega
    rw [this, Nat.and_zero]; rfl
  | l + 1, K, S, h => by
    have h2 : K / 2 < 2 ^ l := by rw [Nat.pow_succ] at h; omega
    by_cases w : K % 2 = 1
    · have ih := x_pda l (K / 2) (S / 2) h2
      have e : x_pd (l + 1) K S = 2 * x_pd l (K / 2) (S / 2) + S % 2 := by
        show (if K % 2 = 1 then 2 * x_pd l (K / 2) (S / 2) + S % 2 else _) = _
        rw [if_pos w]
      rw [e]
      generalize x_pd l (K / 2) (S / 2) = x at *
      generalize hk : K / 2 = k at *
      rw [show K = 2 * k + 1 by omega, b_andh _ _ _ _ (by omega) (by omega), ih]
      have : S % 2 = 0 ∨ S % 2 = 1 := by omega
      rcases this with q | q <;> rw [q] <;> rfl
    · have ih := x_pda l (K / 2) S h2
      have e : x_pd (l + 1) K S = 2 * x_pd l (K / 2) S := by
        show (if K % 2 = 1 then _ else 2 * x_pd l (K / 2) S) = _
        rw [if_neg w]
      rw [e]
      generalize x_pd l (K / 2) S = x at *
      generalize hk : K / 2 = k at *
      rw [show K = 2 * k by omega, b_and2, ih]
theorem x_pdp : ∀ (l K S : Nat), K < 2 ^ l → x_pd l K (S + 1) ≠ 0 → (x_pd l K (S + 1) - 1) &&& K = x_pd l K S
  | 0, K, S, h, hne => absurd rfl hne
  | l + 1, K, S, h, hne => by
    have h2 : K / 2 < 2 ^ l := by rw [Nat.pow_succ] at h; omega
    by_cases w : K % 2 = 1
    · have e : ∀ S, x_pd (l + 1) K S = 2 * x_pd l (K / 2) (S / 2) + S % 2 := by
        intro S
        show (if K % 2 = 1 then 2 * x_pd l (K / 2) (S / 2) + S % 2 else _) = _
        rw [if_pos w]
      rw [e] at hne
      rw [e, e]
      by_cases w2 : S % 2 = 1
      · rw [show (S + 1) / 2 = S / 2 + 1 by omega, show (S + 1) % 2 = 0 by omega] at hne ⊢
        have ih := x_pdp l (K / 2) (S / 2) h2 (by omega)
        rw [← ih, w2]
        generalize x_pd l (K / 2) (S / 2 + 1) = x at *
        generalize hk : K / 2 = k at *
        rw [show 2 * x + 0 - 1 = 2 * (x - 1) + 1 by omega, show K = 2 * k + 1 by omega, b_andh _ _ _ _ (by omega) (by omega)]
        rfl
      · rw [show (S + 1) / 2 = S / 2 by omega, show (S + 1) % 2 = 1 by omega, show S % 2 = 0 by omega]
        have ia := x_pda l (K / 2) (S / 2) h2
        generalize x_pd l (K / 2) (S / 2) = x at *
        generalize hk : K / 2 = k at *
        rw [show 2 * x + 1 - 1 = 2 * x + 0 by omega, show K = 2 * k + 1 by omega, b_andh _ _ _ _ (by omega) (by omega), ia]
        rfl
    · have e : ∀ S, x_pd (l + 1) K S = 2 * x_pd l (K / 2) S := by
        intro S
        show (if K % 2 = 1 then _ else 2 * x_pd l (K / 2) S) = _
        rw [if_neg w]
      rw [e] at hne
      rw [e, e]
      have ih := x_pdp l (K / 2) S h2 (by omega)
      rw [← ih]
      generalize x_pd l (K / 2) (S + 1) = x at *
      generalize hk : K / 2 = k at *
      rw [show 2 * x - 1 = 2 * (x - 1) + 1 by omega, show K = 2 * k + 0 by omega, b_andh _ _ _ _ (by omega) (by omega)]
      rfl
theorem x_sdp {K g : Nat} {k : Nat → Nat} (hK : K < 2 ^ 12) (hk : x_kp K g k) {S : Nat} (hg : g ≤ 12) (hS : S + 1 < 2 ^ g) : x_sd g k (S + 1) ≠ 0 ∧ (x_sd g k (S + 1) - 1) &&& K = x_sd g k S := by
  have hne : x_sd g k (S + 1) ≠ 0 := by
    intro q
    have h1 := x_sdcn hg hk.1 hS
    rw [q] at h1
    have h2 : x_n 0 = 0 := by decide
    have h3 : S + 1 = 0 := by
      have hp : 2 ^ g ≤ 2 ^ 12 := Nat.pow_le_pow_right (by decide) hg
      refine x_ext (by omega) (by decide) (fun i hi => ?_)
      rw [Nat.zero_testBit]
      exact x_cnz 12 (show x_n (S + 1) = 0 by omega) i hi
    omega
  refine ⟨hne, ?_⟩
  rw [← x_pds hK hk, ← x_pds hK hk]
  rw [← x_pds hK hk] at hne
  exact x_pdp 12 K S hK hne
theorem w_sub1 {n R c T : Nat} {b : Nat → Bool} (h : x_M n R b) : x_rk b (T ||| c) ≤ x_rk b c + x_n T := by
  have h1 := w_cork h _ (T ||| c) c rfl (fun i _ hi => by rw [Nat.testBit_or, hi, Bool.or_true])
  have h2 : x_df (T ||| c) c ≤ x_n T := by
    refine x_cnle 12 (fun i _ hi => ?_)
    rw [Nat.testBit_or] at hi
    cases a1 : T.testBit i
    · rw [a1] at hi
      cases a2 : c.testBit i <;> rw [a2] at hi <;> exact absurd hi (by decide)
    · rfl
  generalize x_df (T ||| c) c = d at *
  omega
theorem b_ix {s a c : Nat} (h : c ≤ a) : (13 : Int32) * nI s + nI a - nI c = nI (13 * s + (a - c)) := by
  rw [show (13 : Int32) = nI 13 from rfl, pk_mul, nI_add, nI_subn (by omega), show 13 * s + a - c = 13 * s + (a - c) by omega]
section RLK
variable {ge gr gR go gs gx iv : Nat → Int32} {m m2 n R g r : Nat} {b b' : Nat → Bool} {K c : Nat} {k : Nat → Nat}
theorem r_isLike {post : Int32 → (Nat → Int32) → (Nat → Int32) → (Nat → Int32) → (Nat → Int32) → (Nat → Int32) → (Nat → Int32) → Prop} (hD : r_D ge gr gR m n R b) (hD2 : r_D ge gr gR m2 g r b') (hT : r_T go gs) (hk : x_kp K g k) (hK : K < 2 ^ n) (hc : c < 2 ^ n)
    (h : ∀ (L : Bool) gx', ((∃ f, w_P (x_rk b) (x_rk b') g k c g f) → L = true) → post (if L = true then 1 else 0) iv ge gr gR gs gx') : w87_wp post (nI m) (nI m2) (nI K) (nI c) iv ge gr gR gs gx := by
  have hn := (r_Dn hD).1
  have hg := (r_Dn hD2).1
  have hp := b_p12 hn
  have hpg := b_p12 hg
  have hp0 := Nat.two_pow_pos g
  have hm2 := hD2.1
  have hb := hD.2.2.2.1
  have hb' := hD2.2.2.2.1
  have hK12 : K < 2 ^ 12 := by omega
  have rl : ∀ (b : Nat → Bool) S, x_rk b S ≤ 12 := fun b S => by
    have h1 := x_rkn (b := b) S
    have h2 := x_nle S
    omega
  have hor : K ||| c < 2 ^ n := Nat.or_lt_two_pow hK hc
  have hrr := (r_Dn hD2).2
  -- the t-th set of kept elements, from above
  generalize hsub : (fun t => x_sd g k (2 ^ g - 1 - t)) = sub at *
  have esub : ∀ t, sub t = x_sd g k (2 ^ g - 1 - t) := fun t => by rw [← hsub]
  have hsubn : ∀ t, sub t < 2 ^ n := fun t => by rw [esub]; exact x_sdKl hK hk _
  generalize hA : (fun p S => decide (13 * x_n S + x_rk b' S = p)) = A at *
  have eA : ∀ p S, A p S = decide (13 * x_n S + x_rk b' S = p) := fun p S => by rw [← hA]
  generalize hC : (fun p t => decide (13 * x_n (sub t) + (x_rk b (sub t ||| c) - x_rk b c) = p)) = C at *
  have eC : ∀ p t, C p t = decide (13 * x_n (sub t) + (x_rk b (sub t ||| c) - x_rk b c) = p) := fun p t => by rw [← hC]
  -- equal counts, if there is a map
  have heq : (∃ f, w_P (x_rk b) (x_rk b') g k c g f) → ∀ p, x_cn (2 ^ g) (A p) = x_cn (2 ^ g) (C p) := by
    intro ⟨f, hf⟩ p
    refine x_cnbij (F := fun S => 2 ^ g - 1 - x_im g f S) (fun S hS => by show 2 ^ g - 1 - _ < 2 ^ g; omega) (fun S T hS hT e => ?_) (fun S hS => ?_)
    · have l1 : x_im g f S < 2 ^ g := x_iml g hf.1
      have l2 : x_im g f T < 2 ^ g := x_iml g hf.1
      have e : 2 ^ g - 1 - x_im g f S = 2 ^ g - 1 - x_im g f T := e
      exact w_imi hg hf.1 hf.2.1 hS hT (by omega)
    · have l1 : x_im g f S < 2 ^ g := x_iml g hf.1
      show C p (2 ^ g - 1 - x_im g f S) = A p S
      rw [eC, eA, esub, show 2 ^ g - 1 - (2 ^ g - 1 - x_im g f S) = x_im g f S by omega, x_sdcn hg hk.1 l1, x_imn g (fun i hi => Nat.lt_of_lt_of_le (hf.1 i hi) hg) hf.2.1, ← x_ncn hg hS, x_sdim hk.1 hf.1, hf.2.2 S hS, Nat.add_sub_cancel]
  -- compared
  have comp : ∀ (gx : Nat → Int32), (∀ p, p < 169 → gx p = nI (x_cn (2 ^ g) (A p)) - nI (x_cn (2 ^ g) (C p))) → ∃ j, w87_L170 post j (nI m) (nI m2) (nI K) (nI c) (nI (x_rk b c)) 1 0 iv ge gr gR gs gx := by
    intro gx hx
    have main : ∀ (u p : Nat) (L : Bool), p + u = 169 → ((∃ f, w_P (x_rk b) (x_rk b') g k c g f) → L = true) → w87_L170 post (u + 1) (nI m) (nI m2) (nI K) (nI c) (nI (x_rk b c)) (if L = true then 1 else 0) (nI p) iv ge gr gR gs gx := by
      intro u
      induction u with
      | zero =>
        intro p L hp' hL
        refine ⟨fun _ => ⟨by cases L <;> rfl, h L gx hL⟩, fun w => absurd (nI_le (a := 169) (b := p) (by omega) (by omega)) w⟩
      | succ u ih =>
        intro p L hp' hL
        refine ⟨fun w => absurd w (nI_ge (a := p) (b := 169) (by omega) (by omega)), fun _ => ⟨fun w z ez => ?_, fun w => ⟨b_in (by omega) (by omega), ?_⟩⟩⟩
        · have hLf : L = false := by
            cases L
            · rfl
            · exact t_10 w
          rw [ez, nI_1]
          exact ih (p + 1) false (by omega) (by rw [← hLf]; exact hL)
        · rw [nI_clamp (by omega), hx p (by omega)]
          refine ⟨fun w2 z ez => ?_, fun w2 z ez => ?_⟩
          · rw [ez, nI_1]
            exact ih (p + 1) false (by omega) (fun hf => by
              exfalso
              apply w2
              rw [heq hf p]
              exact Int32.sub_self _)
          · rw [ez, nI_1]
            exact ih (p + 1) true (by omega) (fun _ => rfl)
    exact ⟨170, main 169 0 true rfl (fun _ => rfl)⟩
  -- the kept sets
  have l1 := rl b c
  have keptL : ∀ (u t : Nat) (gx : Nat → Int32), t + u + 1 = 2 ^ g → (∀ p, p < 169 → gx p = nI (x_cn (2 ^ g) (A p)) - nI (x_cn t (C p))) → w87_L106 post (u + 2) (nI m) (nI m2) (nI K) (nI c) (nI (x_rk b c)) (nI (sub t)) iv ge gr gR gs gx := by
    intro u
    induction u with
    | zero =>
      intro t gx ht hx
      have e0 : sub t = 0 := by
        rw [esub, show 2 ^ g - 1 - t = 0 by omega]
        exact x_sd0 hk.1
      have hs1 := w_sub1 (c := c) (T := sub t) hb
      have hs2 := x_rkm hb (S := c) (T := sub t ||| c) (fun i _ hi => by rw [Nat.testBit_or, hi, Bool.or_true])
      have hxn := x_nle (sub t)
      have hst := hsubn t
      refine ⟨fun w => absurd w (nI_pos (by omega)), fun _ => ⟨b_in (by omega) (by omega), ?_⟩⟩
      rw [nI_clamp (by omega), hT.2 _ (by omega), b_or]
      refine r_rank hD (Nat.or_lt_two_pow hst hc) ?_
      have eidx : (13 : Int32) * nI (x_n (sub t)) + nI (x_rk b (sub t ||| c)) - nI (x_rk b c) = nI (13 * x_n (sub t) + (x_rk b (sub t ||| c) - x_rk b c)) := by
        exact b_ix hs2
      rw [eidx, nI_clamp (by omega)]
      refine ⟨b_in (by omega) (by omega), fun z4 e4 => ⟨b_in (by omega) (by omega), fun w => ?_, fun w => ?_⟩⟩
      · exact absurd (by rw [e0]; rfl) w
      · refine ⟨fun _ => ?_, fun w2 => absurd (by decide) w2⟩
        refine comp _ (fun p hp' => ?_)
        have ecn : x_cn (2 ^ g) (C p) = x_cn t (C p) + (if C p t = true then 1 else 0) := by
          rw [show 2 ^ g = t + 1 by omega]; rfl
        rw [ecn, eC]
        by_cases q : 13 * x_n (sub t) + (x_rk b (sub t ||| c) - x_rk b c) = p
        · rw [q, pk_us, e4, q, hx p hp', decide_eq_true rfl, if_pos rfl, ← nI_1]
          grind
        · rw [pk_un (fun k => q k.symm), hx p hp', decide_eq_false q]
          rfl
    | succ u ih =>
      intro t gx ht hx
      have hs1 := w_sub1 (c := c) (T := sub t) hb
      have hs2 := x_rkm hb (S := c) (T := sub t ||| c) (fun i _ hi => by rw [Nat.testBit_or, hi, Bool.or_true])
      have hxn := x_nle (sub t)
      have hst := hsubn t
      obtain ⟨p1, p2⟩ := x_sdp (S := 2 ^ g - 1 - t - 1) hK12 hk hg (by omega)
      rw [show 2 ^ g - 1 - t - 1 + 1 = 2 ^ g - 1 - t by omega, ← esub] at p1 p2
      rw [show 2 ^ g - 1 - t - 1 = 2 ^ g - 1 - (t + 1) by omega, ← esub] at p2
      refine ⟨fun w => absurd w (nI_pos (by omega)), fun _ => ⟨b_in (by omega) (by omega), ?_⟩⟩
      rw [nI_clamp (by omega), hT.2 _ (by omega), b_or]
      refine r_rank hD (Nat.or_lt_two_pow hst hc) ?_
      have eidx : (13 : Int32) * nI (x_n (sub t)) + nI (x_rk b (sub t ||| c)) - nI (x_rk b c) = nI (13 * x_n (sub t) + (x_rk b (sub t ||| c) - x_rk b c)) := by
        exact b_ix hs2
      rw [eidx, nI_clamp (by omega)]
      refine ⟨b_in (by omega) (by omega), fun z4 e4 => ⟨b_in (by omega) (by omega), fun w => ?_, fun w => ?_⟩⟩
      · have e1 : (nI (sub t) - 1) &&& nI K = nI (sub (t + 1)) := by
          have := nI_subn (a := sub t) (b := 1) (by omega)
          rw [show nI (sub t) - 1 = nI (sub t) - nI 1 from rfl, this, b_and, p2]
        show w87_L106 post (u + 2) _ _ _ _ _ _ _ _ _ _ _ _
        rw [e1]
        refine ih (t + 1) _ (by omega) (fun p hp' => ?_)
        have ecn : x_cn (t + 1) (C p) = x_cn t (C p) + (if C p t = true then 1 else 0) := rfl
        rw [ecn, eC]
        by_cases q : 13 * x_n (sub t) + (x_rk b (sub t ||| c) - x_rk b c) = p
        · rw [q, pk_us, e4, q, hx p hp', decide_eq_true rfl, if_pos rfl, ← nI_1]
          grind
        · rw [pk_un (fun k => q k.symm), hx p hp', decide_eq_false q]
          rfl
      · exact absurd w (nI_ne0 (by omega) (by omega))
  -- the guest's sets
  have guestL : ∀ (u S : Nat) (gx : Nat → Int32), S + u = 2 ^ g → (∀ p, p < 169 → gx p = nI (x_cn S (A p))) → w87_L60 post (u + 1) (nI m) (nI m2) (nI K) (nI c) (nI (x_rk b c)) (nI S) iv ge gr gR gs gx := by
    intro u
    induction u with
    | zero =>
      intro S gx hS hx
      unfold w87_L60
      refine r_whole hD2 ⟨fun _ => ⟨2 ^ g + 1, ?_⟩, fun w => absurd (nI_lt (show 2 ^ g - 1 < S by omega) (by omega)) w⟩
      have := keptL (2 ^ g - 1) 0 gx (by omega) (fun p hp' => by
        rw [hx p hp', show S = 2 ^ g by omega, show x_cn 0 (C p) = 0 from rfl, show nI 0 = (0 : Int32) from rfl, Int32.sub_zero])
      rw [show 2 ^ g - 1 + 2 = 2 ^ g + 1 by omega] at this
      have e0 : sub 0 = K := by
        rw [esub, Nat.sub_zero]
        apply Nat.eq_of_testBit_eq
        intro j
        by_cases q : K.testBit j = true
        · have hj : j < 12 := by
            by_cases q2 : j < 12
            · exact q2
            · rw [Nat.testBit_lt_two_pow (Nat.lt_of_lt_of_le hK12 (Nat.pow_le_pow_right (by decide) (by omega)))] at q
              exact absurd q (by decide)
          obtain ⟨h1, h2⟩ := hk.2.2 j hj q
          have := x_sdb (S := 2 ^ g - 1) g hk.1 _ h1
          rw [h2] at this
          rw [this, Nat.testBit_two_pow_sub_one, q]
          exact decide_eq_true h1
        · rw [x_sdo g (fun i hi e => q (by rw [← e]; exact hk.2.1 i hi))]
          cases hh : K.testBit j
          · rfl
          · exact absurd hh q
      rw [e0] at this
      exact this
    | succ u ih =>
      intro S gx hS hx
      have hSl : S < 2 ^ g := by omega
      have hxn := x_nle S
      have hrk := x_rkn (b := b') S
      unfold w87_L60
      refine r_whole hD2 ⟨fun w => absurd w (nI_nlt (by omega) (by omega)), fun _ => ⟨b_in (by omega) (by omega), ?_⟩⟩
      refine r_rank hD2 hSl ?_
      rw [nI_clamp (show S < 2 ^ 31 by omega), hT.2 S (by omega), show (13 : Int32) = nI 13 from rfl, pk_mul, nI_add, nI_clamp (by omega)]
      refine ⟨b_in (by omega) (by omega), fun z9 e9 => ⟨b_in (by omega) (by omega), fun z10 e10 => ?_⟩⟩
      rw [e10, nI_1]
      refine ih (S + 1) _ (by omega) (fun p hp' => ?_)
      have ecn : x_cn (S + 1) (A p) = x_cn S (A p) + (if A p S = true then 1 else 0) := rfl
      rw [ecn, eA]
      by_cases q : 13 * x_n S + x_rk b' S = p
      · rw [q, pk_us, e9, q, hx p hp', decide_eq_true rfl, if_pos rfl, nI_1]
      · rw [pk_un (fun k => q k.symm), hx p hp', decide_eq_false q]
        rfl
  -- cleared
  have clearL : ∀ (u p : Nat) (gx : Nat → Int32), p + u = 169 → (∀ q, q < p → gx q = 0) → w87_L35 post (u + 1) (nI m) (nI m2) (nI K) (nI c) (nI (x_rk b c)) (nI p) iv ge gr gR gs gx := by
    intro u
    induction u with
    | zero =>
      intro p gx hp' hx
      refine ⟨fun _ => ⟨2 ^ g + 1, guestL (2 ^ g) 0 gx (by omega) (fun q hq => by rw [hx q (by omega)]; rfl)⟩, fun w => absurd (nI_le (a := 169) (b := p) (by omega) (by omega)) w⟩
    | succ u ih =>
      intro p gx hp' hx
      refine ⟨fun w => absurd w (nI_ge (a := p) (b := 169) (by omega) (by omega)), fun _ => ⟨b_in (by omega) (by omega), fun z ez => ?_⟩⟩
      rw [ez, nI_1, nI_clamp (by omega)]
      refine ih (p + 1) _ (by omega) (fun q hq => ?_)
      by_cases w : q = p
      · rw [w, pk_us]
      · rw [pk_un w]; exact hx q (by omega)
  have l2 := rl b (K ||| c)
  refine r_rank hD hc ?_
  rw [b_or]
  refine r_rank hD hor ?_
  rw [nI_clamp (by omega), hD2.2.2.1, nI_sube (by omega) (by omega) (by omega)]
  refine ⟨b_in (by omega) (by omega), fun w => ⟨170, clearL 169 0 gx rfl (fun q hq => absurd hq (Nat.not_lt_zero q))⟩, fun w => ⟨rfl, ?_⟩⟩
  refine h false gx (fun ⟨f, hf⟩ => ?_)
  exfalso
  have hall := w_all hK12 hk hf
  rw [x_rkall hb' (S := 2 ^ g - 1) (fun i hi => by rw [Nat.testBit_two_pow_sub_one]; exact decide_eq_true hi)] at hall
  exact w hall
end RLK
section RIM
variable {ge gr gR go gs gx gi iv : Nat → Int32} {m m2 n R g r : Nat} {b b' : Nat → Bool}
theorem r_isMinor {post : Int32 → (Nat → Int32) → (Nat → Int32) → (Nat → Int32) → (Nat → Int32) → (Nat → Int32) → (Nat → Int32) → (Nat → Int32) → (Nat → Int32) → Prop} (hD : r_D ge gr gR m n R b) (hD2 : r_D ge gr gR m2 g r b') (hT : r_T go gs)
    (h1 : ∀ K c f gi' gx', w_1st b b' n g K c f → (∀ i, i < g → gi' i = nI (f i)) → post 1 (va_up (va_up iv 33 (nI K)) 32 (nI c)) ge gr gR go gs gi' gx')
    (h0 : (¬ ∃ K c f, w_E b b' n g K c f) → ∀ gi' gx', post 0 iv ge gr gR go gs gi' gx') : w86_wp post (nI m) (nI m2) iv ge gr gR go gs gi gx := by
  have hn := (r_Dn hD).1
  have hg := (r_Dn hD2).1
  have hp := b_p12 hn
  have hp0 := Nat.two_pow_pos n
  have hm2 := hD2.1
  have hb := hD.2.2.2.1
  have hb' := hD2.2.2.2.1
  have hkey : ∀ i j, i < j → j < 4096 → x_key (x_or 12 i) < x_key (x_or 12 j) := fun i j hij hj => x_orp (Nat.le_refl _) hij hj
  have main : ∀ (u i : Nat) (gi gx : Nat → Int32), i + u = 4096 → (∀ j, j < i → ¬ ∃ c f, w_E b b' n g (x_or 12 j) c f) → w86_L9 post (u + 1) (nI m) (nI m2) (nI (2 ^ n - 1)) (nI i) iv ge gr gR go gs gi gx := by
    intro u
    induction u with
    | zero =>
      intro i gi gx hi hno
      refine ⟨fun _ => ⟨rfl, h0 (fun ⟨K, c, f, hE⟩ => ?_) gi gx⟩, fun w => absurd (nI_le (a := 4096) (b := i) (by omega) (by omega)) w⟩
      obtain ⟨j, hj, ej⟩ := x_orx (n := 12) (Nat.le_refl _) (show K < 2 ^ 12 by have := hE.1; omega)
      exact hno j (by omega) ⟨c, f, by rw [ej]; exact hE⟩
    | succ u ih =>
      intro i gi gx hi hno
      have horl := (x_orl (m := 12) (Nat.le_refl _) (show i < 2 ^ 12 by omega)).1
      have hxn := x_nle (x_or 12 i)
      have next : ∀ (gi gx : Nat → Int32), (¬ ∃ c f, w_E b b' n g (x_or 12 i) c f) → w86_L132 (w86_L9 post (u + 1)) post (nI m) (nI m2) (nI (2 ^ n - 1)) (nI i) (nI (x_or 12 i)) iv ge gr gR go gs gi gx := by
        intro gi gx hnE z ez
        rw [ez, nI_1]
        refine ih (i + 1) gi gx (by omega) (fun j hj => ?_)
        by_cases q : j = i
        · rw [q]; exact hnE
        · exact hno j (by omega)
      refine ⟨fun w => absurd w (nI_ge (a := i) (b := 4096) (by omega) (by omega)), fun _ => ⟨b_in (by omega) (by omega), fun z14 e14 => ?_⟩⟩
      rw [nI_clamp (by omega), hT.1 i (by omega)] at e14
      rw [e14]
      refine ⟨fun w => next gi gx (fun ⟨c, f, hE⟩ => ?_), fun w => ?_⟩
      · have h2 := (nI_ltI (by omega) (by omega)).1 w
        have := hE.1
        omega
      · have hKl : x_or 12 i < 2 ^ n := by
          by_cases q : x_or 12 i < 2 ^ n
          · exact q
          · exact absurd (nI_lt (by omega) (by omega)) w
        rw [nI_clamp (by omega), nI_clamp (by omega), hT.2 _ (by omega), hD2.2.1]
        refine ⟨b_in (by omega) (by omega), b_in (by omega) (by omega), fun w2 => ⟨4097, ?_⟩, fun w2 => next gi gx (fun ⟨c, f, hE⟩ => w2 (by rw [hE.2.1]))⟩
        have hKg : x_n (x_or 12 i) = g := (nI_eq (by omega) (by omega)).1 w2
        obtain ⟨k, hk⟩ := x_kpE (x_or 12 i)
        rw [hKg] at hk
        have inner : ∀ (v j : Nat) (gi gx : Nat → Int32), j + v = 4096 → (∀ l, l < j → ¬ w_C b b' g n (x_or 12 i) k (x_or 12 l)) → w86_L54 (w86_L9 post (u + 1)) post (v + 1) (nI m) (nI m2) (nI (2 ^ n - 1)) (nI i) (nI (x_or 12 i)) (nI j) iv ge gr gR go gs gi gx := by
          intro v
          induction v with
          | zero =>
            intro j gi gx hj hnoC
            refine ⟨fun _ => next gi gx (fun ⟨c, f, hE⟩ => ?_), fun w => absurd (nI_le (a := 4096) (b := j) (by omega) (by omega)) w⟩
            obtain ⟨l, hl, el⟩ := x_orx (n := 12) (Nat.le_refl _) (show c < 2 ^ 12 by have := hE.2.2.1; omega)
            exact hnoC l (by omega) (by rw [el]; exact ⟨hE.2.2.1, hE.2.2.2.1, _, (w_PE hk hE).1⟩)
          | succ v ihv =>
            intro j gi gx hj hnoC
            have hcl := (x_orl (m := 12) (Nat.le_refl _) (show j < 2 ^ 12 by omega)).1
            have nextc : ∀ (gi gx : Nat → Int32), ¬ w_C b b' g n (x_or 12 i) k (x_or 12 j) → w86_L126 (w86_L9 post (u + 1)) (w86_L54 (w86_L9 post (u + 1)) post (v + 1)) post (nI m) (nI m2) (nI (2 ^ n - 1)) (nI i) (nI (x_or 12 i)) (nI j) (nI (x_or 12 j)) iv ge gr gR go gs gi gx := by
              intro gi gx hnC z ez
              rw [ez, nI_1]
              refine ihv (j + 1) gi gx (by omega) (fun l hl => ?_)
              by_cases q : l = j
              · rw [q]; exact hnC
              · exact hnoC l (by omega)
            refine ⟨fun w => absurd w (nI_ge (a := j) (b := 4096) (by omega) (by omega)), fun _ => ⟨b_in (by omega) (by omega), fun z3 e3 => ?_⟩⟩
            rw [nI_clamp (by omega), hT.1 j (by omega)] at e3
            rw [e3]
            refine ⟨fun w => nextc gi gx (fun hC => ?_), fun w => ?_⟩
            · have h2 := (nI_ltI (by omega) (by omega)).1 w
              have := hC.1
              omega
            · have hcn : x_or 12 j < 2 ^ n := by
                by_cases q : x_or 12 j < 2 ^ n
                · exact q
                · exact absurd (nI_lt (by omega) (by omega)) w
              have hand : x_or 12 j &&& x_or 12 i ≤ x_or 12 j := Nat.and_le_left
              rw [b_and]
              refine ⟨fun w2 => nextc gi gx (fun hC => ?_), fun w2 => ?_⟩
              · apply w2
                have : x_or 12 j &&& x_or 12 i = 0 := by
                  apply Nat.eq_of_testBit_eq
                  intro l
                  rw [Nat.testBit_and, Nat.zero_testBit]
                  cases hh : (x_or 12 j).testBit l
                  · rfl
                  · rw [hC.2.1 l hh]; rfl
                rw [this]; rfl
              · have h00 : x_or 12 j &&& x_or 12 i = 0 := (nI_eq (by omega) (by omega)).1 (w2.trans (show (0 : Int32) = nI 0 from rfl))
                have hdis : ∀ l, (x_or 12 j).testBit l = true → (x_or 12 i).testBit l = false := by
                  intro l hl
                  have : (x_or 12 j &&& x_or 12 i).testBit l = false := by rw [h00, Nat.zero_testBit]
                  rw [Nat.testBit_and, hl, Bool.true_and] at this
                  exact this
                refine r_isLike hD hD2 hT hk hKl hcn (fun L gx' hL => ⟨fun w3 => nextc gi gx' (fun hC => ?_), fun w3 => ?_⟩)
                · rw [hL hC.2.2] at w3
                  exact t_10 w3
                · refine r_maps hD hD2 hk hKl hcn 14 0 (fun _ => 0) gi _ (Nat.zero_le _) (by omega) (fun i hi => absurd hi (Nat.not_lt_zero i)) (w_P0 x_rk00) (fun φ' gi' hLx hgi' => ⟨fun k => t_10 k, fun _ => ⟨rfl, ?_⟩⟩) (fun hn2 gi' _ => ⟨fun _ => nextc gi' gx' (fun hC => ?_), fun k => absurd rfl k⟩)
                  · refine h1 (x_or 12 i) (x_or 12 j) (fun e => k (φ' e)) gi' gx' ⟨w_EP hg hk hKl hKg hcn hdis hLx.1, fun K2 c2 f2 hE2 => ?_⟩ hgi'
                    obtain ⟨i2, hi2, ei2⟩ := x_orx (n := 12) (Nat.le_refl _) (show K2 < 2 ^ 12 by have := hE2.1; omega)
                    rcases Nat.lt_trichotomy i2 i with q | q | q
                    · exact absurd ⟨c2, f2, by rw [ei2]; exact hE2⟩ (hno i2 q)
                    · right
                      rw [q] at ei2
                      refine ⟨ei2, ?_⟩
                      rw [← ei2] at hE2
                      obtain ⟨p1, p2⟩ := w_PE hk hE2
                      obtain ⟨j2, hj2, ej2⟩ := x_orx (n := 12) (Nat.le_refl _) (show c2 < 2 ^ 12 by have := hE2.2.2.1; omega)
                      rcases Nat.lt_trichotomy j2 j with q2 | q2 | q2
                      · exact absurd (by rw [ej2]; exact ⟨hE2.2.2.1, hE2.2.2.2.1, _, p1⟩) (hnoC j2 q2)
                      · right
                        rw [q2] at ej2
                        refine ⟨ej2, ?_⟩
                        rw [← ej2] at p1
                        rcases hLx.2.2 _ p1 (fun i hi => absurd hi (Nat.not_lt_zero i)) with k5 | ⟨e, e1, e2, e3⟩
                        · left
                          intro e he
                          show f2 e = k (φ' e)
                          rw [← k5 e he, p2 e he]
                        · right
                          refine ⟨e, e1, fun l hl => ?_, ?_⟩
                          · show f2 l = k (φ' l)
                            rw [← e2 l hl, p2 l (by omega)]
                          · show k (φ' e) < f2 e
                            rw [← p2 e e1]
                            exact hk.1.1 _ _ e3 (p1.1 e e1)
                      · left
                        rw [← ej2]
                        exact hkey j j2 q2 hj2
                    · left
                      rw [← ei2]
                      exact hkey i i2 q hi2
                  · obtain ⟨_, _, f, hf⟩ := hC
                    exact hn2 ⟨f, hf, fun i hi => absurd hi (Nat.not_lt_zero i)⟩
        exact inner 4096 0 gi gx rfl (fun l hl => absurd hl (Nat.not_lt_zero l))
  exact r_whole hD ⟨4097, main 4096 0 gi gx rfl (fun j hj => absurd hj (Nat.not_lt_zero j))⟩
/-- a first witness is the only one -/
theorem w_1u {K c K2 c2 : Nat} {f f2 : Nat → Nat} (hn : n ≤ 12) (h : w_1st b b' n g K c f) (h2 : w_1st b b' n g K2 c2 f2) : K = K2 ∧ c = c2 ∧ ∀ i, i < g → f i = f2 i := by
  have a := h.2 K2 c2 f2 h2.1
  have a2 := h2.2 K c f h.1
  rcases a with q | ⟨q, a⟩
  · rcases a2 with q2 | ⟨q2, _⟩
    · omega
    · rw [q2] at q; omega
  · rcases a2 with q2 | ⟨_, a2⟩
    · rw [q] at q2; omega
    · refine ⟨q, ?_⟩
      rcases a with p | ⟨p, a⟩
      · rcases a2 with p2 | ⟨p2, _⟩
        · omega
        · rw [p2] at p; omega
      · rcases a2 with p2 | ⟨_, a2⟩
        · rw [p] at p2; omega
        · refine ⟨p, ?_⟩
          rcases a with s | ⟨i, i1, i2, i3⟩
          · exact fun i hi => (s i hi).symm
          · rcases a2 with s2 | ⟨j, j1, j2, j3⟩
            · exact s2
            · exfalso
              rcases Nat.lt_trichotomy i j with w | w | w
              · have := j2 i w; omega
              · subst w; omega
              · have := i2 j w; omega
end RIM
