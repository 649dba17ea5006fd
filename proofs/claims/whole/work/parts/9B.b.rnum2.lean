/-! PURE, the reference's numbers: small, isAtMost, often -/
theorem nL_le0 {a : Nat} (ha : a < 2 ^ 63) : lg_cmp (nL a) 0 ≤ 0 ↔ a = 0 := by
  rw [lg_cmp_le, Int64.le_iff_toInt_le, nL_toInt ha]
  show (a : Int) ≤ 0 ↔ _
  omega
theorem iL_ge0 {z : Int} (h1 : -2 ^ 63 ≤ z) (h2 : z < 2 ^ 63) : 0 ≤ lg_cmp (iL z) 0 ↔ 0 ≤ z := by
  rw [lg_cmp_ge, Int64.le_iff_toInt_le, iL_toInt h1 h2]
  exact Iff.rfl
theorem nL_to32 (a : Nat) : (nL a).toInt32 = nI a := Int64.toInt32_ofNat
theorem pn_smallL {post : Int32 → Int32 → (Nat → Int32) → Prop} {x1 : Int64} {m : Int32} {z : Int} (hm : m = (if z < 0 then 1 else 0)) (h : ∀ n' f', pn_N ⟨n', m, f'⟩ z → post n' m f') : ∀ (u j R : Nat) (f : Nat → Int32), j + u = 4 → R < 2 ^ 63 → R < 65536 ^ u → pn_d f j → pn_v f j + R * 65536 ^ j = z.natAbs → (R = 0 → j = 0 ∨ ¬ f (j - 1) = 0) → nsm_L32 post (u + 1) x1 (nL R) (nI j) m f := by
  intro u
  induction u with
  | zero =>
    intro j R f hj hR hR' hd hv ht
    have hR' : R < 1 := hR'
    have e : R = 0 := by omega
    subst e
    refine ⟨fun _ => h _ f ⟨j, by omega, rfl, hd, ht rfl, by rw [← hv, Nat.zero_mul, Nat.add_zero], hm⟩, fun w => absurd ((nL_le0 (by decide)).2 rfl) w⟩
  | succ u ih =>
    intro j R f hj hR hR' hd hv ht
    refine ⟨fun w => ?_, fun w z1 e1 => ⟨b_in (by omega) (by omega), fun z2 e2 z3 e3 => ?_⟩⟩
    · have e : R = 0 := (nL_le0 hR).1 w
      subst e
      exact h _ f ⟨j, by omega, rfl, hd, ht rfl, by rw [← hv, Nat.zero_mul, Nat.add_zero], hm⟩
    · have hR0 : ¬ R = 0 := fun q => w ((nL_le0 hR).2 q)
      rw [show (65536 : Int64) = nL 65536 from rfl, nL_modg hR (by decide), nL_to32] at e1
      rw [show (65536 : Int64) = nL 65536 from rfl, nL_divg hR (by decide)] at e3
      rw [e1, e2, e3, nI_1, nI_clamp (by omega)]
      have hdm := Nat.div_add_mod R 65536
      refine ih (j + 1) (R / 65536) _ (by omega) (by omega) ?_ ?_ ?_ ?_
      · rw [Nat.pow_succ] at hR'
        exact Nat.div_lt_of_lt_mul (by rw [Nat.mul_comm]; exact hR')
      · intro i hi
        by_cases q : i = j
        · subst q; exact ⟨R % 65536, Nat.mod_lt _ (by decide), pk_us⟩
        · obtain ⟨d, hd1, hd2⟩ := hd i (by omega)
          exact ⟨d, hd1, by rw [pk_un q]; exact hd2⟩
      · show pn_v (upd f j (nI (R % 65536))) j + (upd f j (nI (R % 65536)) j).toNatClampNeg * 65536 ^ j + R / 65536 * 65536 ^ (j + 1) = _
        rw [pk_us, nI_clamp (by omega), pn_v_congr (g := f) j (fun i hi => pk_un (by omega)), ← hv, Nat.pow_succ]
        generalize R / 65536 = q at *
        generalize R % 65536 = r at *
        generalize 65536 ^ j = P at *
        rw [← hdm]
        grind
      · intro q
        refine Or.inr ?_
        rw [Nat.add_sub_cancel, pk_us]
        exact nI_ne0 (by omega) (by omega)
theorem pn_small {post : Int32 → Int32 → (Nat → Int32) → Prop} {z : Int} {n m : Int32} {f : Nat → Int32} (h1 : -2 ^ 62 ≤ z) (h2 : z < 2 ^ 62) (h : ∀ n' m' f', pn_N ⟨n', m', f'⟩ z → post n' m' f') : nsm_wp post (iL z) n m f := by
  unfold nsm_wp nz_wp nsm_L16 nsm_L31
  refine ⟨fun w => ⟨⟨rfl, rfl⟩, fun _ => ⟨5, ?_⟩, fun w' => absurd w w'⟩, fun w => ⟨⟨rfl, rfl⟩, fun w' => absurd w' w, fun _ => ⟨5, ?_⟩⟩⟩
  · rw [iL_ge0 (by omega) (by omega)] at w
    have e : iL z = nL z.natAbs := by rw [iL_n, Int.natAbs_of_nonneg w]
    have := pn_smallL (post := post) (x1 := iL z) (m := 0) (z := z) (by rw [if_neg (by omega)]) (fun n' f' q => h _ _ _ q) 4 0 z.natAbs f (by omega) (by omega) (by omega) (fun i hi => absurd hi (Nat.not_lt_zero i)) (by rw [Nat.pow_zero, Nat.mul_one]; exact Nat.zero_add _) (fun _ => Or.inl rfl)
    rw [← e] at this
    exact this
  · rw [iL_ge0 (by omega) (by omega)] at w
    have e : -iL z = nL z.natAbs := by rw [iL_neg, iL_n]; congr 1; omega
    rw [e]
    exact pn_smallL (post := post) (x1 := iL z) (m := 1) (z := z) (by rw [if_pos (by omega)]) (fun n' f' q => h _ _ _ q) 4 0 z.natAbs f (by omega) (by omega) (by omega) (fun i hi => absurd hi (Nat.not_lt_zero i)) (by rw [Nat.pow_zero, Nat.mul_one]; exact Nat.zero_add _) (fun _ => Or.inl rfl)
/-- a digit less t times another, and what is borrowed -/
theorem pn_st {A : Int64 → Int64 → Prop} {d1 d0 t bo : Nat} (h1 : d1 < 65536) (h0 : d0 < 65536) (ht : t ≤ 65535) (hb : bo ≤ 65535) (h : ∀ bo' dig, bo' ≤ 65535 → dig < 65536 → dig + (d0 * t + bo) = d1 + bo' * 65536 → A (iL ((d1 : Int) - bo - (d0 * t : Nat))) (nL bo')) : ∀ z3 : Int64, z3 = (nL d1 - nL bo) - nL (d0 * t) → (0 ≤ lg_cmp z3 0 → A z3 0) ∧ (¬ 0 ≤ lg_cmp z3 0 → A z3 ((65535 - z3) / 65536)) := by
  intro z3 e3
  rw [iL_n, iL_n, iL_n, iL_sub, iL_sub] at e3
  have hm : d0 * t ≤ 65535 * 65535 := Nat.mul_le_mul (by omega) ht
  generalize d0 * t = w at *
  rw [e3, iL_ge0 (by omega) (by omega)]
  refine ⟨fun q => h 0 (d1 - (w + bo)) (by omega) (by omega) (by omega), fun q => ?_⟩
  have e4 : (65535 : Int64) - iL ((d1 : Int) - bo - (w : Nat)) = nL (65535 + (w + bo) - d1) := by
    rw [show (65535 : Int64) = iL 65535 from rfl, iL_sub, iL_n]
    congr 1; omega
  rw [e4, show (65536 : Int64) = nL 65536 from rfl, nL_divg (by omega) (by decide)]
  exact h _ (d1 + (65535 + (w + bo) - d1) / 65536 * 65536 - (w + bo)) (by omega) (by omega) (by omega)
theorem pn_vz {f : Nat → Int32} {k j d : Nat} (hd : pn_z f k j = nI d) (h : d < 65536) : pn_v (pn_z f k) (j + 1) = pn_v (pn_z f k) j + d * 65536 ^ j := by
  show pn_v (pn_z f k) j + (pn_z f k j).toNatClampNeg * 65536 ^ j = _
  rw [hd, nI_clamp (by omega)]
theorem b_toL {d : Nat} (h : d < 65536) : (nI d).toInt64 = nL d := nL_of (by omega)
section RNW
variable {k0 k1 t : Nat} {m0 m1 : Int32} {f0 f1 : Nat → Int32}
/-- isAtMost -/
theorem pn_atMost {post : Int32 → Int32 → Int32 → (Nat → Int32) → Int32 → Int32 → (Nat → Int32) → Prop} (ht : t ≤ 65535) (hk0 : k0 ≤ k1) (hk1 : k1 ≤ 160) (hd0 : pn_d f0 k0) (hd1 : pn_d f1 k1) (h : post (if t * pn_v f0 k0 ≤ pn_v f1 k1 then 1 else 0) (nI k0) m0 f0 (nI k1) m1 f1) : nam_wp post (nI t) (nI k0) m0 f0 (nI k1) m1 f1 := by
  have main : ∀ (u j bo r : Nat), j + u = k1 → bo ≤ 65535 → r < 65536 ^ j → r + t * pn_v (pn_z f0 k0) j = pn_v (pn_z f1 k1) j + bo * 65536 ^ j → nam_L5 post (u + 1) (nI t) (nL bo) (nI j) (nI k0) m0 f0 (nI k1) m1 f1 := by
    intro u
    induction u with
    | zero =>
      intro j bo r hj hbo hr hv
      have : j = k1 := by omega
      subst this
      rw [pn_zv hk0, pn_zv (Nat.le_refl j)] at hv
      unfold nam_L5 nam_L90
      refine ⟨fun _ => ⟨fun w => ⟨rfl, ?_⟩, fun w => ⟨rfl, ?_⟩⟩, fun w => absurd (nI_le (Nat.le_refl j) (by omega)) w⟩
      · have q : ¬ bo = 0 := fun q => w ((nL_eq (by omega) (by decide) (b := 0)).2 q)
        have : 65536 ^ j ≤ bo * 65536 ^ j := Nat.le_mul_of_pos_left _ (by omega)
        rw [if_neg (by omega)] at h; exact h
      · have q : bo = 0 := (nL_eq (by omega) (by decide) (b := 0)).1 w
        subst q
        rw [if_pos (by omega)] at h; exact h
    | succ u ih =>
      intro j bo r hj hbo hr hv
      obtain ⟨d1, hd1', ed1⟩ := pn_zd hd1 (j + 1) j (by omega)
      obtain ⟨d0, hd0', ed0⟩ := pn_zd hd0 (j + 1) j (by omega)
      have ez1 : pn_z f1 k1 j = if j < k1 then f1 j else 0 := rfl
      have ez0 : pn_z f0 k0 j = if j < k0 then f0 j else 0 := rfl
      rw [ed1, if_pos (show j < k1 by omega)] at ez1
      rw [ed0] at ez0
      unfold nam_L5 nam_L48 nam_L72
      rw [nI_clamp (show j < 2 ^ 31 by omega), ← ez1, b_toL hd1', nL_of (show t < 2 ^ 31 by omega)]
      have fin := pn_st (A := fun z2 y0 => ∀ z1 : Int32, z1 = nI j + 1 → nam_L5 post (u + 1) (nI t) y0 z1 (nI k0) m0 f0 (nI k1) m1 f1) hd1' hd0' ht hbo (fun bo' dig hb' hdig hsum z1 e1 => by
        rw [e1, nI_1]
        refine ih (j + 1) bo' (r + dig * 65536 ^ j) (by omega) hb' ?_ ?_
        · rw [Nat.pow_succ]
          generalize 65536 ^ j = P at *
          have : dig * P ≤ 65535 * P := Nat.mul_le_mul_right P (by omega)
          omega
        · rw [pn_vz ed1 hd1', pn_vz ed0 hd0', Nat.pow_succ]
          generalize 65536 ^ j = P at *
          have e : (dig + (d0 * t + bo)) * P = (d1 + bo' * 65536) * P := by rw [hsum]
          grind)
      refine ⟨fun w => absurd w (nI_ge (by omega) (by omega)), fun _ => ⟨b_in (by omega) (by omega), fun w => ?_, fun w => ⟨b_in (by omega) (by omega), ?_⟩⟩⟩
      · have : d0 = 0 := by
          rw [if_neg (fun q => nI_ge q (by omega) w)] at ez0
          exact (nI_eq (by omega) (by decide) (b := 0)).1 ez0
        rw [this, Nat.zero_mul] at fin
        exact fin
      · rw [if_pos (Classical.byContradiction (fun q => w (nI_le (by omega) (by omega))))] at ez0
        rw [← ez0, b_toL hd0', nL_mul]
        exact fin
  exact ⟨k1 + 1, main k1 0 0 0 (by omega) (by omega) (by rw [Nat.pow_zero]; decide) (by show 0 + t * 0 = 0 + 0 * 65536 ^ 0; omega)⟩
/-- what is left -/
theorem pn_rest {post : Int32 → Int32 → Int32 → (Nat → Int32) → Int32 → Int32 → (Nat → Int32) → Prop} {x3 : Int32} {V : Nat} (ht : t ≤ 65535) (hk0 : k0 ≤ k1) (hk1 : k1 ≤ 160) (hd0 : pn_d f0 k0) (hV : V < 65536 ^ k1) (hle : t * pn_v f0 k0 ≤ V) (hm : m1 = 0) (h : ∀ n' m' f', pn_N ⟨n', m', f'⟩ ((V - t * pn_v f0 k0 : Nat) : Int) → post (nI t) n' m' f' (nI k0) m0 f0) :
    ∀ (u j bo : Nat) (g : Nat → Int32), j + u = k1 → bo ≤ 65535 → pn_d g k1 → pn_v g k1 + t * pn_v (pn_z f0 k0) j = V + bo * 65536 ^ j → nof_L49 post (u + 1) (nI t) x3 (nL bo) (nI j) (nI k1) m1 g (nI k0) m0 f0 := by
  intro u
  induction u with
  | zero =>
    intro j bo g hj hbo hg hv
    have : j = k1 := by omega
    subst this
    rw [pn_zv hk0] at hv
    have hlt := pn_v_lt j hg
    have hbo0 : bo = 0 := by
      refine Classical.byContradiction (fun q => ?_)
      have : 65536 ^ j ≤ bo * 65536 ^ j := Nat.le_mul_of_pos_left _ (by omega)
      omega
    subst hbo0
    unfold nof_L49
    refine ⟨fun _ => ?_, fun w => absurd (nI_le (Nat.le_refl j) (by omega)) w⟩
    refine pn_trimN (z := ((V - t * pn_v f0 k0 : Nat) : Int)) hk1 hg (by rw [Int.natAbs_natCast]; omega) (Or.inl hm) (fun _ => by rw [hm, if_neg (by omega)]) (fun n' m' q => h n' m' g q)
  | succ u ih =>
    intro j bo g hj hbo hg hv
    obtain ⟨d1, hd1', ed1⟩ := hg j (by omega)
    obtain ⟨d0, hd0', ed0⟩ := pn_zd hd0 (j + 1) j (by omega)
    have ez0 : pn_z f0 k0 j = if j < k0 then f0 j else 0 := rfl
    rw [ed0] at ez0
    unfold nof_L49 nof_L93 nof_L117
    rw [nI_clamp (show j < 2 ^ 31 by omega), ed1, b_toL hd1', nL_of (show t < 2 ^ 31 by omega)]
    have fin := pn_st (A := fun z3 y0 => ∀ z1 : Int32, z1 = (z3 + (65536 * y0)).toInt32 → vp_in (nI j) 160 ∧ (∀ z2 : Int32, z2 = nI j + 1 → nof_L49 post (u + 1) (nI t) x3 y0 z2 (nI k1) m1 (upd g j z1) (nI k0) m0 f0)) hd1' hd0' ht hbo (fun bo' dig hb' hdig hsum z1 e1 => by
      refine ⟨b_in (by omega) (by omega), fun z2 e2 => ?_⟩
      have e1 : z1 = nI dig := by
        rw [e1, show (65536 : Int64) = iL 65536 from rfl, iL_n bo', iL_mul, iL_add, ← nL_to32, iL_n dig]
        congr 2
        generalize d0 * t = w at *
        omega
      rw [e1, e2, nI_1]
      refine ih (j + 1) bo' _ (by omega) hb' (pn_d_upd hg hdig) ?_
      have hu := pn_v_upd (f := g) (j := j) (nI dig) k1 (by omega)
      rw [ed1, nI_clamp (by omega), nI_clamp (by omega)] at hu
      rw [pn_vz ed0 hd0', Nat.pow_succ]
      generalize 65536 ^ j = P at *
      generalize pn_v (upd g j (nI dig)) k1 = W at *
      have e : (dig + (d0 * t + bo)) * P = (d1 + bo' * 65536) * P := by rw [hsum]
      grind)
    refine ⟨fun w => absurd w (nI_ge (by omega) (by omega)), fun _ => ⟨b_in (by omega) (by omega), fun w => ?_, fun w => ⟨b_in (by omega) (by omega), ?_⟩⟩⟩
    · have : d0 = 0 := by
        rw [if_neg (fun q => nI_ge q (by omega) w)] at ez0
        exact (nI_eq (by omega) (by decide) (b := 0)).1 ez0
      rw [this, Nat.zero_mul] at fin
      exact fin
    · rw [if_pos (Classical.byContradiction (fun q => w (nI_le (by omega) (by omega))))] at ez0
      rw [← ez0, b_toL hd0', nL_mul]
      exact fin
/-- often -/
theorem pn_often {post : Int32 → Int32 → Int32 → (Nat → Int32) → Int32 → Int32 → (Nat → Int32) → Prop} (hk0 : k0 ≤ k1) (hk1 : k1 ≤ 160) (hd0 : pn_d f0 k0) (hd1 : pn_d f1 k1) (hm : m1 = 0) (hge : pn_v f0 k0 ≤ pn_v f1 k1) (hlt : pn_v f1 k1 < 65536 * pn_v f0 k0) (h : ∀ n' m' f', pn_N ⟨n', m', f'⟩ ((pn_v f1 k1 % pn_v f0 k0 : Nat) : Int) → post (nI (pn_v f1 k1 / pn_v f0 k0)) n' m' f' (nI k0) m0 f0) : nof_wp post (nI k1) m1 f1 (nI k0) m0 f0 := by
  have main : ∀ (u lo hi : Nat), hi - lo ≤ u → 1 ≤ lo → lo ≤ hi → hi ≤ 65535 → lo * pn_v f0 k0 ≤ pn_v f1 k1 → pn_v f1 k1 < (hi + 1) * pn_v f0 k0 → nof_L5 post (u + 1) (nI lo) (nI hi) (nI k1) m1 f1 (nI k0) m0 f0 := by
    intro u
    induction u with
    | zero =>
      intro lo hi hu h1 h2 h3 h4 h5
      have : lo = hi := by omega
      subst this
      refine ⟨fun _ => ⟨k1 + 1, ?_⟩, fun w => absurd (nI_le (Nat.le_refl lo) (by omega)) w⟩
      have hq : pn_v f1 k1 / pn_v f0 k0 = lo := Nat.div_eq_of_lt_le (by rw [Nat.mul_comm] at *; omega) (by rw [Nat.mul_comm] at *; omega)
      have hr : pn_v f1 k1 - lo * pn_v f0 k0 = pn_v f1 k1 % pn_v f0 k0 := by
        have := Nat.div_add_mod (pn_v f1 k1) (pn_v f0 k0)
        rw [hq, Nat.mul_comm] at this; omega
      refine pn_rest (V := pn_v f1 k1) h3 hk0 hk1 hd0 (pn_v_lt k1 hd1) h4 hm (fun n' m' f' q => ?_) k1 0 0 f1 (by omega) (by omega) hd1 (by show _ + lo * 0 = _ + 0 * _; omega)
      have := h n' m' f' (by rw [← hr]; exact q)
      rw [hq] at this; exact this
    | succ u ih =>
      intro lo hi hu h1 h2 h3 h4 h5
      by_cases q : lo = hi
      · subst q
        have := ih lo lo (by omega) h1 h2 h3 h4 h5
        unfold nof_L5 at this ⊢
        exact ⟨this.1, fun w => absurd (nI_le (Nat.le_refl lo) (by omega)) w⟩
      · unfold nof_L5 nof_L40
        refine ⟨fun w => absurd w (nI_ge (by omega) (by omega)), fun _ z7 e7 => ?_⟩
        have e7 : z7 = nI ((lo + hi + 1) / 2) := by
          rw [e7, nI_add, nI_1, show (2 : Int32) = nI 2 from rfl, pk_div (by omega) (by decide) (by decide)]
        rw [e7]
        generalize hmid : (lo + hi + 1) / 2 = mid at *
        refine pn_atMost (by omega) hk0 hk1 hd0 hd1 ⟨fun w z14 e14 => ?_, fun w => ?_⟩
        · have hn : ¬ mid * pn_v f0 k0 ≤ pn_v f1 k1 := fun q => by rw [if_pos q] at w; exact t_10 w
          rw [e14, show nI mid - 1 = nI (mid - 1) from pk_sub (b := 1) (by omega)]
          exact ih lo (mid - 1) (by omega) h1 (by omega) (by omega) h4 (by rw [show mid - 1 + 1 = mid by omega]; omega)
        · have hn : mid * pn_v f0 k0 ≤ pn_v f1 k1 := Classical.byContradiction (fun q => w (if_neg q))
          exact ih mid hi (by omega) (by omega) (by omega) h3 hn h5
  exact ⟨65535, main 65534 1 65535 (by omega) (by omega) (by omega) (by omega) (by rw [Nat.one_mul]; exact hge) hlt⟩
end RNW
