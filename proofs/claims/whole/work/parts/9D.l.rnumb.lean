/-! PURE, the reference: putNum -/
theorem pn_vdig : ∀ (k : Nat) (f : Nat → Int32), pn_d f k → ∀ i, i < k → f i = nI (pn_v f k / 65536 ^ i % 65536)
  | 0, _, _, i, hi => absurd hi (Nat.not_lt_zero i)
  | k + 1, f, hd, i, hi => by
    obtain ⟨d, hd1, hd2⟩ := hd 0 (by omega)
    rw [pn_vs, hd2, nI_clamp (by omega)]
    cases i with
    | zero =>
      rw [Nat.pow_zero, Nat.div_one, Nat.add_mul_mod_self_left, Nat.mod_eq_of_lt hd1]
      exact hd2
    | succ i =>
      have ih := pn_vdig k (fun j => f (j + 1)) (fun j hj => hd (j + 1) (by omega)) i (by omega)
      have ih : f (i + 1) = nI (pn_v (fun j => f (j + 1)) k / 65536 ^ i % 65536) := ih
      rw [ih, Nat.pow_succ, Nat.mul_comm (65536 ^ i) 65536, ← Nat.div_div_eq_div_mul, Nat.add_mul_div_left _ _ (by decide), Nat.div_eq_of_lt hd1, Nat.zero_add]
theorem pn_vof : ∀ (k w : Nat) (f : Nat → Int32), w < 65536 ^ k → (∀ i, i < k → f i = nI (w / 65536 ^ i % 65536)) → pn_v f k = w
  | 0, w, f, hw, _ => by
    rw [Nat.pow_zero] at hw
    show 0 = w
    omega
  | k + 1, w, f, hw, h => by
    have h0 := h 0 (by omega)
    rw [Nat.pow_zero, Nat.div_one] at h0
    have ih := pn_vof k (w / 65536) (fun j => f (j + 1)) (by
      rw [Nat.pow_succ] at hw
      exact Nat.div_lt_of_lt_mul (by rw [Nat.mul_comm]; exact hw)) (fun i hi => by
      show f (i + 1) = _
      rw [h (i + 1) (by omega), Nat.pow_succ, Nat.mul_comm (65536 ^ i) 65536, ← Nat.div_div_eq_div_mul])
    rw [pn_vs, h0, nI_clamp (by omega), ih]
    omega
/-- a number, as it is written -/
def x_zd (z : Int) : List Nat := if z = 0 then [48] else (if z < 0 then [45] else []) ++ x_dg z.natAbs
section RNB
variable {iv sh gd : Nat → Int32} {U : List Nat} {nv : Nat → px_NV} {a : Nat} {z : Int}
theorem b_dv10 {r d : Nat} (hr : r < 10) (hd : d < 65536) : (65536 : Int32) * nI r + nI d = nI (65536 * r + d) ∧ nI (65536 * r + d) / 10 = nI ((65536 * r + d) / 10) ∧ nI (65536 * r + d) - nI (65536 * r + d) / 10 * 10 = nI ((65536 * r + d) % 10) := by
  have e1 : (65536 : Int32) * nI r + nI d = nI (65536 * r + d) := by rw [show (65536 : Int32) = nI 65536 from rfl, pk_mul, nI_add]
  have e2 : nI (65536 * r + d) / 10 = nI ((65536 * r + d) / 10) := by
    rw [show (10 : Int32) = nI 10 from rfl]
    exact pk_div (by omega) (by decide) (by decide)
  refine ⟨e1, e2, ?_⟩
  rw [e2, show (10 : Int32) = nI 10 from rfl, Int32.mul_comm, pk_mul, nI_subn (by omega)]
  congr 1
  omega
theorem rp_num {post : (Nat → Int32) → (Nat → Int32) → (Nat → Int32) → (Nat → px_NV) → Prop} (ha : a < 196) (hz : pn_N (nv a) z) (hb : z.natAbs < 10 ^ 48) (hI : rp_I iv sh U) (h : ∀ iv' sh' gd' nv', rp_I iv' sh' (U ++ x_zd z) → rp_Q iv iv' → (∀ q, q ≠ 196 → nv' q = nv q) → post iv' sh' gd' nv') : w107_wp a post iv sh gd nv := by
  have hz0 := (pn_N0 hz).2
  unfold w107_wp
  refine ⟨by omega, fun w => ⟨by omega, ?_⟩, fun w => ?_⟩
  · have hne : ¬ z = 0 := fun q => w (hz0.2 q)
    have hzd : x_zd z = (if z < 0 then [45] else []) ++ x_dg z.natAbs := by unfold x_zd; rw [if_neg hne]
    rw [hzd] at h
    obtain ⟨D1, D2, D3, D4⟩ := x_dgD hb
    have hdg : x_dg z.natAbs = x_dec z.natAbs (x_nD 47 z.natAbs) := rfl
    rw [hdg] at h
    generalize x_nD 47 z.natAbs = D at *
    -- the digits written, from the last on
    have out : ∀ (c : Nat) (iv1 sh1 gd1 : Nat → Int32) (nv1 : Nat → px_NV) (W : List Nat), c ≤ D → (∀ i, i < D → gd1 i = nI (48 + z.natAbs / 10 ^ i % 10)) → rp_I iv1 sh1 (W ++ (x_dec z.natAbs D).take (D - c)) → rp_Q iv iv1 → (∀ q, q ≠ 196 → nv1 q = nv q) → W ++ x_dec z.natAbs D = U ++ ((if z < 0 then [45] else []) ++ x_dec z.natAbs D) → w107_L141 a post (c + 1) (nI c) iv1 sh1 gd1 nv1 := by
      intro c
      induction c with
      | zero =>
        intro iv1 sh1 gd1 nv1 W hc hg hI1 hQ1 hn1 hW
        refine ⟨fun _ => h iv1 sh1 gd1 nv1 ?_ hQ1 hn1, fun w => absurd (Int32.le_refl 0) w⟩
        rw [← hW]
        rw [Nat.sub_zero, List.take_of_length_le (by rw [x_decl]; exact Nat.le_refl D)] at hI1
        exact hI1
      | succ c ih =>
        intro iv1 sh1 gd1 nv1 W hc hg hI1 hQ1 hn1 hW
        unfold w107_L141
        refine ⟨fun w => absurd w (show ¬ nI (c + 1) ≤ nI 0 from nI_ge (by omega) (by omega)), fun _ z1 e1 => ?_⟩
        have e2 : nI (c + 1) + (-1) = nI c := by
          rw [← nI_1]
          have : nI c + 1 + (-1) = nI c := by rw [Int32.add_assoc]; show nI c + 0 = nI c; exact Int32.add_zero _
          exact this
        rw [e1, e2, nI_clamp (show c < 2 ^ 31 by omega), hg c (by omega)]
        refine ⟨b_in (by omega) (by omega), rp_put (by omega) hI1 (fun iv2 sh2 hI2 hQ2 => ih iv2 sh2 gd1 nv1 W (by omega) hg ?_ (rp_QT hQ1 hQ2) hn1 hW)⟩
        rw [x_dect z.natAbs D c (by omega), ← List.append_assoc]
        exact hI2
    -- the digits made
    have make : ∀ (u c : Nat) (iv1 sh1 gd1 : Nat → Int32) (nv1 : Nat → px_NV) (W : List Nat), c + u = D → (∀ i, i < c → gd1 i = nI (48 + z.natAbs / 10 ^ i % 10)) → pn_N (nv1 196) ((z.natAbs / 10 ^ c : Nat) : Int) → rp_I iv1 sh1 W → rp_Q iv iv1 → (∀ q, q ≠ 196 → nv1 q = nv q) → W ++ x_dec z.natAbs D = U ++ ((if z < 0 then [45] else []) ++ x_dec z.natAbs D) → w107_L45 a post (u + 1) (nI c) iv1 sh1 gd1 nv1 := by
      intro u
      induction u with
      | zero =>
        intro c iv1 sh1 gd1 nv1 W hc hg hN hI1 hQ1 hn1 hW
        have : c = D := by omega
        subst this
        have hv0 : z.natAbs / 10 ^ c = 0 := Nat.div_eq_of_lt D3
        rw [hv0] at hN
        have h0 := (pn_N0 hN).1
        unfold w107_L45
        refine ⟨fun _ => ⟨c + 1, out c iv1 sh1 gd1 nv1 W (Nat.le_refl c) hg ?_ hQ1 hn1 hW⟩, fun w => absurd (h0.2 rfl) w⟩
        rw [Nat.sub_self, List.take_zero, List.append_nil]; exact hI1
      | succ u ih =>
        intro c iv1 sh1 gd1 nv1 W hc hg hN hI1 hQ1 hn1 hW
        have hvp : ¬ ((z.natAbs / 10 ^ c : Nat) : Int) = 0 := by
          have h1 : 10 ^ c ≤ z.natAbs := by
            by_cases q : D = 1
            · have : c = 0 := by omega
              rw [this, Nat.pow_zero]; omega
            · exact Nat.le_trans (Nat.pow_le_pow_right (by decide) (by omega)) (D4.resolve_left q)
          have := Nat.div_pos h1 (Nat.pow_pos (by decide) : 0 < 10 ^ c)
          omega
        have h0 := (pn_N0 hN).1
        obtain ⟨k, n1, n2, n3, n4, n5, n6⟩ := id hN
        rw [Int.natAbs_natCast] at n5
        have hk0 : 0 < k := Nat.pos_of_ne_zero (fun q => by
          rw [q] at n5
          have : (0 : Nat) = z.natAbs / 10 ^ c := n5
          omega)
        generalize hv : z.natAbs / 10 ^ c = v at *
        have n6' : (nv1 196).2.1 = 0 := by rw [n6, if_neg (by omega)]
        have hvk : v < 65536 ^ k := by rw [← n5]; exact pn_v_lt k n3
        have hdg0 := pn_vdig k (nv1 196).2.2 n3
        rw [n5] at hdg0
        unfold w107_L45
        rw [n2]
        refine ⟨fun w => absurd w (show ¬ nI k ≤ nI 0 from nI_ge hk0 (by omega)), fun _ z16 e16 => ⟨k + 1, ?_⟩⟩
        have e17 : nI k - 1 = nI k + (-1) := by rw [Int32.sub_eq_add_neg]
        rw [e16, e17]
        have pass : ∀ (j : Nat) (nv2 : Nat → px_NV), j ≤ k → (∀ q, q ≠ 196 → nv2 q = nv1 q) → (nv2 196).1 = nI k → (nv2 196).2.1 = 0 → (∀ i, i < j → (nv2 196).2.2 i = nI (v / 65536 ^ i % 65536)) → (∀ i, j ≤ i → i < k → (nv2 196).2.2 i = nI (v / 10 / 65536 ^ i % 65536)) → w107_L68 (w107_L45 a post (u + 1)) a post (j + 1) (nI c) (nI (v / 65536 ^ j % 10)) (nI j + (-1)) iv1 sh1 gd1 nv2 := by
          intro j
          induction j with
          | zero =>
            intro nv2 hj m1 m2 m3 m4 m5
            unfold w107_L68
            refine ⟨fun _ => ?_, fun w => absurd (show nI 0 + (-1) < 0 by decide) w⟩
            rw [Nat.pow_zero, Nat.div_one, m2, m3]
            have hvv : pn_v (nv2 196).2.2 k = v / 10 := pn_vof k (v / 10) _ (Nat.lt_of_le_of_lt (Nat.div_le_self _ _) hvk) (fun i hi => m5 i (Nat.zero_le i) hi)
            refine ⟨⟨by simp, fun q hq => by rw [List.mem_singleton.mp hq]; decide⟩, pn_trimN (z := ((v / 10 : Nat) : Int)) n1 (fun i hi => ⟨_, Nat.mod_lt _ (by decide), m5 i (Nat.zero_le i) hi⟩) (by rw [hvv, Int.natAbs_natCast]) (Or.inl rfl) (fun _ => by rw [if_neg (by omega)]) (fun n' m' hN' nv9 e9 => ⟨b_in (by omega) (by omega), fun z10 e10 => ?_⟩)⟩
            rw [e10, nI_1, nI_clamp (show c < 2 ^ 31 by omega)]
            have ec : vp_nar .byte ((48 + nI (v % 10)).toInt8.toInt32) = nI (48 + v % 10) := by
              rw [show (48 : Int32) = nI 48 from rfl, nI_add]
              exact b_nar8 _ (by omega)
            rw [ec]
            refine ih (c + 1) iv1 sh1 _ nv9 W (by omega) (fun i hi => ?_) ?_ hI1 hQ1 (fun q hq => ?_) hW
            · by_cases q : i = c
              · rw [q, pk_us, hv]
              · rw [pk_un q]; exact hg i (by omega)
            · rw [e9]
              show pn_N (va_up nv2 196 _ 196) _
              rw [va_up_self, Nat.pow_succ, ← Nat.div_div_eq_div_mul, hv]
              exact hN'
            · rw [e9]
              show va_up nv2 196 _ q = _
              rw [va_up_ne _ _ hq, m1 q hq]; exact hn1 q hq
          | succ j ihj =>
            intro nv2 hj m1 m2 m3 m4 m5
            have e2 : nI (j + 1) + (-1) = nI j := by
              rw [← nI_1]
              have : nI j + 1 + (-1) = nI j := by rw [Int32.add_assoc]; show nI j + 0 = nI j; exact Int32.add_zero _
              exact this
            rw [e2]
            have hd := m4 j (by omega)
            have hA : v / 65536 ^ j = 65536 * (v / 65536 ^ (j + 1)) + v / 65536 ^ j % 65536 := by
              rw [Nat.pow_succ, ← Nat.div_div_eq_div_mul]; omega
            have hdl : v / 65536 ^ j % 65536 < 65536 := Nat.mod_lt _ (by decide)
            have hrl : v / 65536 ^ (j + 1) % 10 < 10 := Nat.mod_lt _ (by decide)
            have hq : (65536 * (v / 65536 ^ (j + 1) % 10) + v / 65536 ^ j % 65536) / 10 = v / 10 / 65536 ^ j % 65536 := by
              rw [Nat.div_div_eq_div_mul, Nat.mul_comm 10, ← Nat.div_div_eq_div_mul]
              generalize v / 65536 ^ (j + 1) = A at *
              generalize v / 65536 ^ j % 65536 = d at *
              rw [hA]
              omega
            have hr : (65536 * (v / 65536 ^ (j + 1) % 10) + v / 65536 ^ j % 65536) % 10 = v / 65536 ^ j % 10 := by
              generalize v / 65536 ^ (j + 1) = A at *
              generalize v / 65536 ^ j % 65536 = d at *
              rw [hA]
              omega
            obtain ⟨d1, d2, d3⟩ := b_dv10 hrl hdl
            unfold w107_L68
            rw [nI_clamp (show j < 2 ^ 31 by omega), hd, d1]
            refine ⟨fun w => absurd w (show ¬ nI j < nI 0 from fun z => absurd (nI_le (Nat.zero_le j) (by omega)) (Int32.not_le.2 z)), fun _ => ⟨b_in (by omega) (by omega), fun z11 e11 z12 e12 => ⟨b_in (by omega) (by omega), fun nv13 e13 z14 e14 z15 e15 => ?_⟩⟩⟩
            subst e11
            rw [d2, hq] at e12
            rw [d3, hr] at e14
            rw [e14, e15]
            have g196 : nv13 196 = ⟨(nv2 196).1, (nv2 196).2.1, upd (nv2 196).2.2 j z12⟩ := by rw [e13, va_up_self]
            refine ihj nv13 (by omega) (fun q hq' => by rw [e13, va_up_ne _ _ hq']; exact m1 q hq') (by rw [g196]; exact m2) (by rw [g196]; exact m3) (fun i hi => ?_) (fun i h1 h2 => ?_)
            · rw [g196]
              show upd (nv2 196).2.2 j z12 i = _
              rw [pk_un (by omega)]; exact m4 i (by omega)
            · rw [g196]
              show upd (nv2 196).2.2 j z12 i = _
              by_cases q : i = j
              · rw [q, pk_us, e12]
              · rw [pk_un q]; exact m5 i (by omega) h2
        have := pass k nv1 (Nat.le_refl k) (fun _ _ => rfl) n2 n6' (fun i hi => hdg0 i hi) (fun i h1 h2 => absurd h2 (by omega))
        rw [Nat.div_eq_of_lt hvk, Nat.zero_mod] at this
        exact this
    have beg : ∀ (iv1 sh1 : Nat → Int32) (W : List Nat), rp_I iv1 sh1 W → rp_Q iv iv1 → W ++ x_dec z.natAbs D = U ++ ((if z < 0 then [45] else []) ++ x_dec z.natAbs D) → w107_L27 a post iv1 sh1 gd nv := fun iv1 sh1 W hI1 hQ1 hW => by
      unfold w107_L27
      refine pn_cpP (by decide) (by omega) (by omega) hz (fun nv2 k2 r2 => ?_)
      intro nv25 e25
      have g196 : nv25 196 = ⟨(nv2 196).1, 0, (nv2 196).2.2⟩ := by rw [e25, va_up_self]
      refine ⟨D + 1, make D 0 iv1 sh1 gd nv25 W (by omega) (fun i hi => absurd hi (Nat.not_lt_zero i)) ?_ hI1 hQ1 (fun q hq => by rw [e25, va_up_ne _ _ hq]; exact k2 q hq) hW⟩
      obtain ⟨k, n1, n2, n3, n4, n5, n6⟩ := r2
      rw [Nat.pow_zero, Nat.div_one, g196]
      exact ⟨k, n1, n2, n3, n4, by rw [Int.natAbs_natCast]; exact n5, by rw [if_neg (by omega)]⟩
    obtain ⟨k, n1, n2, n3, n4, n5, n6⟩ := id hz
    refine ⟨fun w1 => ?_, fun w1 => ?_⟩
    · have hp : ¬ z < 0 := fun q => by rw [n6, if_pos q] at w1; exact t_10 w1
      refine beg iv sh U hI rp_QR ?_
      rw [if_neg hp, List.nil_append]
    · have hp : z < 0 := Classical.byContradiction (fun q => w1 (by rw [n6, if_neg q]))
      refine rp_put (c := 45) (by decide) hI (fun iv1 sh1 hI1 hQ1 => beg iv1 sh1 _ hI1 hQ1 ?_)
      rw [if_pos hp, List.append_assoc]
  · have hz0' : z = 0 := hz0.1 w
    have hzd : x_zd z = [48] := by unfold x_zd; rw [if_pos hz0']
    rw [hzd] at h
    exact rp_put (c := 48) (by decide) hI (fun iv1 sh1 hI1 hQ1 => h iv1 sh1 gd nv hI1 hQ1 (fun _ _ => rfl))
end RNB
