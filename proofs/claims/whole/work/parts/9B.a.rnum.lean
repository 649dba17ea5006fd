/-! PURE, the reference's numbers: their values, less -/
/-- x is the number z -/
def pn_N (x : px_NV) (z : Int) : Prop := ∃ k, k ≤ 160 ∧ x.1 = nI k ∧ pn_d x.2.2 k ∧ (k = 0 ∨ ¬ x.2.2 (k - 1) = 0) ∧ pn_v x.2.2 k = z.natAbs ∧ x.2.1 = (if z < 0 then 1 else 0)
def pn_z (f : Nat → Int32) (k : Nat) : Nat → Int32 := fun i => if i < k then f i else 0
theorem pn_zd {f : Nat → Int32} {k : Nat} (h : pn_d f k) (K : Nat) : pn_d (pn_z f k) K := by
  intro j _
  unfold pn_z
  by_cases q : j < k
  · rw [if_pos q]; exact h j q
  · rw [if_neg q]; exact ⟨0, by decide, rfl⟩
theorem pn_zv {f : Nat → Int32} {k K : Nat} (h : k ≤ K) : pn_v (pn_z f k) K = pn_v f k := by
  have := pn_v_trim (g := pn_z f k) (k := k) (K - k) (fun j h1 _ => if_neg (by omega))
  rw [show k + (K - k) = K by omega] at this
  rw [this]
  exact pn_v_congr k (fun j hj => if_pos hj)
theorem pn_Nk {x : px_NV} {z : Int} {c : Nat} (h : pn_N x z) (hz : z.natAbs < 65536 ^ c) : ∃ k, k ≤ c ∧ k ≤ 160 ∧ x.1 = nI k ∧ pn_d x.2.2 k ∧ (k = 0 ∨ ¬ x.2.2 (k - 1) = 0) ∧ pn_v x.2.2 k = z.natAbs ∧ x.2.1 = (if z < 0 then 1 else 0) := by
  obtain ⟨k, h1, h2, h3, h4, h5, h6⟩ := h
  refine ⟨k, ?_, h1, h2, h3, h4, h5, h6⟩
  refine Classical.byContradiction (fun q => ?_)
  have h4 := h4.resolve_left (by omega)
  have := pn_v_ge (f := x.2.2) (k := k - 1) (by rw [show k - 1 + 1 = k by omega]; exact h3) h4
  rw [show k - 1 + 1 = k by omega, h5] at this
  have : 65536 ^ c ≤ 65536 ^ (k - 1) := Nat.pow_le_pow_right (by decide) (by omega)
  omega
theorem pn_k0 {x : px_NV} {z : Int} {k : Nat} (h2 : x.1 = nI k) (h3 : pn_d x.2.2 k) (h4 : k = 0 ∨ ¬ x.2.2 (k - 1) = 0) (h5 : pn_v x.2.2 k = z.natAbs) : k = 0 ↔ z = 0 := by
  constructor
  · intro q; subst q
    have : (0 : Nat) = z.natAbs := h5
    omega
  · intro q
    refine Classical.byContradiction (fun w => ?_)
    have h4 := h4.resolve_left w
    have := pn_v_ge (f := x.2.2) (k := k - 1) (by rw [show k - 1 + 1 = k by omega]; exact h3) h4
    rw [show k - 1 + 1 = k by omega, h5, q] at this
    have : 0 < 65536 ^ (k - 1) := Nat.pow_pos (by decide)
    have : (0 : Int).natAbs = 0 := rfl
    omega
theorem pn_trimN {post : Int32 → Int32 → (Nat → Int32) → Prop} {f : Nat → Int32} {m : Int32} {k : Nat} {z : Int} (hk : k ≤ 160) (hd : pn_d f k) (hz : pn_v f k = z.natAbs) (hm : m = 0 ∨ m = 1) (hs : ¬ z = 0 → m = (if z < 0 then 1 else 0)) (h : ∀ n' m', pn_N ⟨n', m', f⟩ z → post n' m' f) : nt_wp post (nI k) m f := by
  refine ⟨k + 1, pn_trim hm k hk (fun k' h1 h2 h3 => h _ _ ?_)⟩
  have e := pn_v_trim (g := f) (k := k') (k - k') (fun j a b => h3 j a (by omega))
  rw [show k' + (k - k') = k by omega, hz] at e
  have h0 := pn_k0 (x := ⟨nI k', m, f⟩) (z := z) rfl (pn_dm hd h1) h2 e.symm
  refine ⟨k', by omega, rfl, pn_dm hd h1, h2, e.symm, ?_⟩
  show (if k' = 0 then 0 else m) = _
  by_cases q : k' = 0
  · rw [if_pos q, h0.1 q]; rfl
  · rw [if_neg q]; exact hs (fun w => q (h0.2 w))
theorem pn_un {nv : Nat → px_NV} {a c : Nat} {v : px_NV} (h : c ≠ a) : va_up nv a v c = nv c := va_up_ne _ _ h
section RNU
variable {nv : Nat → px_NV} {a0 a1 a2 : Nat}
/-- the digits' sum -/
theorem pn_sumL {post : (Nat → px_NV) → Prop} {x3 : Int32} {k1 k2 K : Nat} {f1 f2 : Nat → Int32} {nv0 : Nat → px_NV} {z : Int} (h0 : a0 < 200) (h1 : a1 < 200) (h2 : a2 < 200) (h01 : a1 ≠ a0) (h02 : a2 ≠ a0) (e1 : (nv0 a1).1 = nI k1) (e2 : (nv0 a2).1 = nI k2) (e1f : (nv0 a1).2.2 = f1) (e2f : (nv0 a2).2.2 = f2) (hd1 : pn_d f1 k1) (hd2 : pn_d f2 k2) (hk1 : k1 ≤ K) (hk2 : k2 ≤ K) (hK : K < 160) (hz : pn_v f1 k1 + pn_v f2 k2 = z.natAbs) (hm1 : (nv0 a1).2.1 = 0 ∨ (nv0 a1).2.1 = 1) (hm3 : x3 = 0 ∨ x3 = 1) (hs : ¬ z = 0 → (if k1 = 0 then x3 else (nv0 a1).2.1) = (if z < 0 then 1 else 0))
    (h : ∀ nv', (∀ c, c ≠ a0 → nv' c = nv0 c) → pn_N (nv' a0) z → post nv') : ∀ (u j ca : Nat) (nv : Nat → px_NV), j + u = K → ca ≤ 1 → (∀ c, c ≠ a0 → nv c = nv0 c) → pn_d (nv a0).2.2 j → pn_v (nv a0).2.2 j + ca * 65536 ^ j = pn_v (pn_z f1 k1) j + pn_v (pn_z f2 k2) j → w17_L72 a0 a1 a2 post (u + 1) x3 (nI K) (nI ca) (nI j) nv := by
  intro u
  induction u with
  | zero =>
    intro j ca nv hj hca hnv hd hv
    have : j = K := by omega
    subst this
    unfold w17_L72
    refine ⟨fun _ => ⟨h0, h0, b_in (by omega) (by omega), fun nv24 e24 z25 e25 => ⟨h0, fun nv26 e26 => ⟨h1, ?_⟩⟩⟩, fun w => absurd (nI_le (Nat.le_refl j) (by omega)) w⟩
    have ev1 : nv26 a1 = nv0 a1 := by rw [e26, pn_un h01, e24, pn_un h01, hnv _ h01]
    have ev0 : nv26 a0 = ⟨nI (j + 1), (nv a0).2.1, upd (nv a0).2.2 j (nI ca)⟩ := by
      rw [e26, va_up_self, e24, va_up_self, e25, nI_1, nI_clamp (by omega)]
    have evc : ∀ c, c ≠ a0 → nv26 c = nv0 c := fun c hc => by rw [e26, pn_un hc, e24, pn_un hc, hnv c hc]
    rw [ev1, e1]
    have fin : ∀ y0 : Int32, y0 = (if k1 = 0 then x3 else (nv0 a1).2.1) → w17_L183 a0 a1 a2 post x3 (nI j) (nI ca) (nI j) y0 nv26 := by
      intro y0 ey
      have hy : y0 = 0 ∨ y0 = 1 := by rw [ey]; split <;> assumption
      refine ⟨h0, pn_bool hy, fun nv13 e13 => ⟨⟨by simp, fun i hi => by rw [List.mem_singleton.mp hi]; exact h0⟩, ?_⟩⟩
      have ev13 : nv13 a0 = ⟨nI (j + 1), y0, upd (nv a0).2.2 j (nI ca)⟩ := by rw [e13, va_up_self, ev0]
      rw [ev13]
      refine pn_trimN (z := z) (by omega) ?_ ?_ hy (fun w => by rw [ey]; exact hs w) (fun n' m' hN nv18 e18 => h nv18 (fun c hc => ?_) ?_)
      · intro i hi
        by_cases q : i = j
        · subst q; exact ⟨ca, by omega, pk_us⟩
        · obtain ⟨d, hd1, hd2⟩ := hd i (by omega)
          exact ⟨d, hd1, by show upd _ j _ i = _; rw [pk_un q]; exact hd2⟩
      · show pn_v (upd (nv a0).2.2 j (nI ca)) j + (upd (nv a0).2.2 j (nI ca) j).toNatClampNeg * 65536 ^ j = _
        rw [pk_us, nI_clamp (by omega), pn_v_congr (g := (nv a0).2.2) j (fun i hi => pk_un (by omega)), hv, pn_zv hk1, pn_zv hk2, hz]
      · rw [e18]
        show va_up nv13 a0 _ c = _
        rw [pn_un hc, e13, pn_un hc, evc c hc]
      · rw [e18]
        show pn_N (va_up nv13 a0 _ a0) z
        rw [va_up_self]; exact hN
    refine ⟨fun w => ⟨h1, fin _ ?_⟩, fun w => fin _ ?_⟩
    · rw [if_neg (fun q => w (by rw [q]; rfl))]
    · rw [if_pos (Classical.byContradiction (fun q => nI_ne0 (by omega) (by omega) w))]
  | succ u ih =>
    intro j ca nv hj hca hnv hd hv
    unfold w17_L72 w17_L101 w17_L121
    rw [hnv a1 h01, hnv a2 h02, e1, e2, e1f, e2f, nI_clamp (show j < 2 ^ 31 by omega)]
    obtain ⟨d1, hd1', ed1⟩ := pn_zd hd1 (j + 1) j (by omega)
    obtain ⟨d2, hd2', ed2⟩ := pn_zd hd2 (j + 1) j (by omega)
    have fin : ∀ y1 y0 : Int32, y1 = nI d1 → y0 = nI d2 → ∀ z19 : Int32, z19 = nI ca + (y1 + y0) → a0 < 200 ∧ (∀ z20 : Int32, z20 = z19 - z19 / 65536 * 65536 → a0 < 200 ∧ (vp_in (nI j) 160 ∧ (∀ nv21 : Nat → px_NV, nv21 = va_up nv a0 ⟨(nv a0).1, (nv a0).2.1, upd (nv a0).2.2 j z20⟩ → (∀ z22 : Int32, z22 = z19 / 65536 → ∀ z23 : Int32, z23 = nI j + 1 → w17_L72 a0 a1 a2 post (u + 1) x3 (nI K) z22 z23 nv21)))) := by
      intro y1 y0 ey1 ey0 z19 e19
      rw [ey1, ey0, nI_add, nI_add] at e19
      refine ⟨h0, fun z20 e20 => ⟨h0, b_in (by omega) (by omega), fun nv21 e21 z22 e22 z23 e23 => ?_⟩⟩
      rw [e19, show (65536 : Int32) = nI 65536 from rfl, pk_rem (by omega) (by decide) (by decide)] at e20
      rw [e19, show (65536 : Int32) = nI 65536 from rfl, pk_div (by omega) (by decide) (by decide)] at e22
      rw [e22, e23, nI_1]
      have ev0 : (nv21 a0).2.2 = upd (nv a0).2.2 j z20 := by rw [e21, va_up_self]
      refine ih (j + 1) _ nv21 (by omega) (by omega) (fun c hc => by rw [e21, pn_un hc, hnv c hc]) ?_ ?_
      · rw [ev0]
        intro i hi
        by_cases q : i = j
        · subst q; exact ⟨_, Nat.mod_lt _ (by decide), by rw [pk_us, e20]⟩
        · obtain ⟨d, hd1, hd2⟩ := hd i (by omega)
          exact ⟨d, hd1, by rw [pk_un q]; exact hd2⟩
      · rw [ev0]
        show pn_v (upd (nv a0).2.2 j z20) j + (upd (nv a0).2.2 j z20 j).toNatClampNeg * 65536 ^ j + (ca + (d1 + d2)) / 65536 * 65536 ^ (j + 1) = (pn_v (pn_z f1 k1) j + (pn_z f1 k1 j).toNatClampNeg * 65536 ^ j) + (pn_v (pn_z f2 k2) j + (pn_z f2 k2 j).toNatClampNeg * 65536 ^ j)
        rw [pk_us, pn_v_congr (g := (nv a0).2.2) j (fun i hi => pk_un (by omega)), e20, nI_clamp (by omega), ed1, ed2, nI_clamp (by omega), nI_clamp (by omega), Nat.pow_succ]
        have := Nat.div_add_mod (ca + (d1 + d2)) 65536
        generalize (ca + (d1 + d2)) / 65536 = q at *
        generalize (ca + (d1 + d2)) % 65536 = r at *
        generalize 65536 ^ j = P at *
        have e : (65536 * q + r) * P = (ca + (d1 + d2)) * P := by rw [this]
        grind
    have ez1 : pn_z f1 k1 j = if j < k1 then f1 j else 0 := rfl
    have ez2 : pn_z f2 k2 j = if j < k2 then f2 j else 0 := rfl
    rw [ed1] at ez1
    rw [ed2] at ez2
    have g2 : ∀ y1 : Int32, y1 = nI d1 → a2 < 200 ∧ ((nI k2 ≤ nI j → ∀ z19 : Int32, z19 = nI ca + (y1 + 0) → a0 < 200 ∧ (∀ z20 : Int32, z20 = z19 - z19 / 65536 * 65536 → a0 < 200 ∧ (vp_in (nI j) 160 ∧ (∀ nv21 : Nat → px_NV, nv21 = va_up nv a0 ⟨(nv a0).1, (nv a0).2.1, upd (nv a0).2.2 j z20⟩ → (∀ z22 : Int32, z22 = z19 / 65536 → ∀ z23 : Int32, z23 = nI j + 1 → w17_L72 a0 a1 a2 post (u + 1) x3 (nI K) z22 z23 nv21))))) ∧ (¬ nI k2 ≤ nI j → a2 < 200 ∧ (a2 < 200 ∧ (vp_in (nI j) 160 ∧ (∀ z19 : Int32, z19 = nI ca + (y1 + f2 j) → a0 < 200 ∧ (∀ z20 : Int32, z20 = z19 - z19 / 65536 * 65536 → a0 < 200 ∧ (vp_in (nI j) 160 ∧ (∀ nv21 : Nat → px_NV, nv21 = va_up nv a0 ⟨(nv a0).1, (nv a0).2.1, upd (nv a0).2.2 j z20⟩ → (∀ z22 : Int32, z22 = z19 / 65536 → ∀ z23 : Int32, z23 = nI j + 1 → w17_L72 a0 a1 a2 post (u + 1) x3 (nI K) z22 z23 nv21))))))))) := by
      intro y1 ey1
      refine ⟨h2, fun w => fin y1 0 ey1 ?_, fun w => ⟨h2, h2, b_in (by omega) (by omega), fin y1 _ ey1 ?_⟩⟩
      · rw [ez2, if_neg (fun q => nI_ge q (by omega) w)]
      · rw [ez2, if_pos (Classical.byContradiction (fun q => w (nI_le (by omega) (by omega))))]
    refine ⟨fun w => absurd w (nI_ge (by omega) (by omega)), fun _ => ⟨h1, fun w => g2 0 ?_, fun w => ⟨h1, h1, b_in (by omega) (by omega), g2 _ ?_⟩⟩⟩
    · rw [ez1, if_neg (fun q => nI_ge q (by omega) w)]
    · rw [ez1, if_pos (Classical.byContradiction (fun q => w (nI_le (by omega) (by omega))))]
/-- the digits' difference -/
theorem pn_difL {post : (Nat → px_NV) → Prop} {x3 x4 : Int32} {a5 a6 k5 k6 : Nat} {f5 f6 : Nat → Int32} {nv0 : Nat → px_NV} {z : Int} (h0 : a0 < 200) (h1 : a1 < 200) (h5 : a5 < 200) (h6 : a6 < 200) (h01 : a1 ≠ a0) (h05 : a5 ≠ a0) (h06 : a6 ≠ a0) (e5 : (nv0 a5).1 = nI k5) (e6 : (nv0 a6).1 = nI k6) (e5f : (nv0 a5).2.2 = f5) (e6f : (nv0 a6).2.2 = f6) (hd5 : pn_d f5 k5) (hd6 : pn_d f6 k6) (hk5 : k5 ≤ 160) (hk6 : k6 ≤ k5) (hge : pn_v f6 k6 ≤ pn_v f5 k5) (hz : pn_v f5 k5 - pn_v f6 k6 = z.natAbs) (hm1 : (nv0 a1).2.1 = 0 ∨ (nv0 a1).2.1 = 1) (hm3 : x3 = 0 ∨ x3 = 1) (hs : ¬ z = 0 → (if x4 = 0 then x3 else (nv0 a1).2.1) = (if z < 0 then 1 else 0))
    (h : ∀ nv', (∀ c, c ≠ a0 → nv' c = nv0 c) → pn_N (nv' a0) z → post nv') : ∀ (u j bo : Nat) (nv : Nat → px_NV), j + u = k5 → bo ≤ 1 → (∀ c, c ≠ a0 → nv c = nv0 c) → pn_d (nv a0).2.2 j → pn_v (nv a0).2.2 j + pn_v (pn_z f6 k6) j = pn_v (pn_z f5 k5) j + bo * 65536 ^ j → w17_L236 a0 a1 a2 post (u + 1) x3 x4 a5 a6 (nI bo) (nI j) nv := by
  intro u
  induction u with
  | zero =>
    intro j bo nv hj hbo hnv hd hv
    have : j = k5 := by omega
    subst this
    rw [pn_zv hk6, pn_zv (Nat.le_refl j)] at hv
    have hlt := pn_v_lt j hd
    have hb0 : pn_v (nv a0).2.2 j = z.natAbs := by
      rcases (show bo = 0 ∨ bo = 1 by omega) with q | q
      · subst q; omega
      · subst q; omega
    unfold w17_L236
    rw [hnv a5 h05, e5]
    refine ⟨h5, fun _ => ⟨h5, fun z11 e11 => ⟨h0, fun nv12 e12 => ?_⟩⟩, fun w => absurd (nI_le (Nat.le_refl j) (by omega)) w⟩
    have ev1 : nv12 a1 = nv0 a1 := by rw [e12, pn_un h01, hnv _ h01]
    have fin : ∀ y0 : Int32, y0 = (if x4 = 0 then x3 else (nv0 a1).2.1) → w17_L338 a0 a1 a2 post x3 x4 a5 a6 (nI bo) (nI j) y0 nv12 := by
      intro y0 ey
      have hy : y0 = 0 ∨ y0 = 1 := by rw [ey]; split <;> assumption
      refine ⟨h0, pn_bool hy, fun nv1 e1 => ⟨⟨by simp, fun i hi => by rw [List.mem_singleton.mp hi]; exact h0⟩, ?_⟩⟩
      have ev13 : nv1 a0 = ⟨nI j, y0, (nv a0).2.2⟩ := by rw [e1, va_up_self, e12, va_up_self, e11]
      rw [ev13]
      refine pn_trimN (z := z) hk5 hd hb0 hy (fun w => by rw [ey]; exact hs w) (fun n' m' hN nv18 e18 => h nv18 (fun c hc => ?_) ?_)
      · rw [e18]
        show va_up nv1 a0 _ c = _
        rw [pn_un hc, e1, pn_un hc, e12, pn_un hc, hnv c hc]
      · rw [e18]
        show pn_N (va_up nv1 a0 _ a0) z
        rw [va_up_self]; exact hN
    refine ⟨fun w => fin _ (by rw [if_pos w]), fun w => ⟨h1, fin _ (by rw [if_neg w, ev1])⟩⟩
  | succ u ih =>
    intro j bo nv hj hbo hnv hd hv
    unfold w17_L236 w17_L276 w17_L292
    rw [hnv a5 h05, hnv a6 h06, e5, e6, e5f, e6f, nI_clamp (show j < 2 ^ 31 by omega)]
    obtain ⟨d5, hd5', ed5⟩ := pn_zd hd5 (j + 1) j (by omega)
    obtain ⟨d6, hd6', ed6⟩ := pn_zd hd6 (j + 1) j (by omega)
    have ez5 : pn_z f5 k5 j = if j < k5 then f5 j else 0 := rfl
    have ez6 : pn_z f6 k6 j = if j < k6 then f6 j else 0 := rfl
    rw [ed5, if_pos (show j < k5 by omega)] at ez5
    rw [ed6] at ez6
    have step : ∀ (z7 : Int32) (bo' dd : Nat), bo' ≤ 1 → dd < 65536 → z7 = nI dd → dd + d6 + bo = d5 + bo' * 65536 → ∀ nv8 : Nat → px_NV, nv8 = va_up nv a0 ⟨(nv a0).1, (nv a0).2.1, upd (nv a0).2.2 j z7⟩ → w17_L236 a0 a1 a2 post (u + 1) x3 x4 a5 a6 (nI bo') (nI (j + 1)) nv8 := by
      intro z7 bo' dd hb' hdd e7 hsum nv8 e8
      have ev0 : (nv8 a0).2.2 = upd (nv a0).2.2 j z7 := by rw [e8, va_up_self]
      refine ih (j + 1) bo' nv8 (by omega) hb' (fun c hc => by rw [e8, pn_un hc, hnv c hc]) ?_ ?_
      · rw [ev0]
        intro i hi
        by_cases q : i = j
        · subst q; exact ⟨dd, hdd, by rw [pk_us, e7]⟩
        · obtain ⟨d, hd1, hd2⟩ := hd i (by omega)
          exact ⟨d, hd1, by rw [pk_un q]; exact hd2⟩
      · rw [ev0]
        show pn_v (upd (nv a0).2.2 j z7) j + (upd (nv a0).2.2 j z7 j).toNatClampNeg * 65536 ^ j + (pn_v (pn_z f6 k6) j + (pn_z f6 k6 j).toNatClampNeg * 65536 ^ j) = (pn_v (pn_z f5 k5) j + (pn_z f5 k5 j).toNatClampNeg * 65536 ^ j) + bo' * 65536 ^ (j + 1)
        rw [pk_us, pn_v_congr (g := (nv a0).2.2) j (fun i hi => pk_un (by omega)), e7, nI_clamp (by omega), ed5, ed6, nI_clamp (by omega), nI_clamp (by omega), Nat.pow_succ]
        generalize 65536 ^ j = P at *
        have e : (dd + d6 + bo) * P = (d5 + bo' * 65536) * P := by rw [hsum]
        grind
    have fin : ∀ y0 y1 : Int32, y0 = nI d6 → y1 = nI d5 → ∀ z10 : Int32, z10 = (y1 - y0) - nI bo → (0 ≤ z10 → a0 < 200 ∧ (∀ z7 : Int32, z7 = z10 + (65536 * 0) → a0 < 200 ∧ (vp_in (nI j) 160 ∧ (∀ nv8 : Nat → px_NV, nv8 = va_up nv a0 ⟨(nv a0).1, (nv a0).2.1, upd (nv a0).2.2 j z7⟩ → (∀ z9 : Int32, z9 = nI j + 1 → w17_L236 a0 a1 a2 post (u + 1) x3 x4 a5 a6 0 z9 nv8))))) ∧ (¬ 0 ≤ z10 → a0 < 200 ∧ (∀ z7 : Int32, z7 = z10 + (65536 * 1) → a0 < 200 ∧ (vp_in (nI j) 160 ∧ (∀ nv8 : Nat → px_NV, nv8 = va_up nv a0 ⟨(nv a0).1, (nv a0).2.1, upd (nv a0).2.2 j z7⟩ → (∀ z9 : Int32, z9 = nI j + 1 → w17_L236 a0 a1 a2 post (u + 1) x3 x4 a5 a6 1 z9 nv8))))) := by
      intro y0 y1 ey0 ey1 z10 e10
      have e10 : z10 = nI d5 - nI (d6 + bo) := by
        rw [e10, ey0, ey1, ← nI_add]; grind
      by_cases q : d6 + bo ≤ d5
      · rw [pk_sub q] at e10
        refine ⟨fun _ => ⟨h0, fun z7 e7 => ⟨h0, b_in (by omega) (by omega), fun nv8 e8 z9 e9 => ?_⟩⟩, fun w => absurd (by rw [e10]; exact nI_pos' (by omega)) w⟩
        rw [e9, nI_1]
        exact step z7 0 (d5 - (d6 + bo)) (by omega) (by omega) (by rw [e7, e10]; grind) (by omega) nv8 e8
      · refine ⟨fun w => absurd w (by rw [e10]; exact Int32.not_le.mpr (pk_sneg (by omega) (by omega))), fun _ => ⟨h0, fun z7 e7 => ⟨h0, b_in (by omega) (by omega), fun nv8 e8 z9 e9 => ?_⟩⟩⟩
        rw [e9, nI_1]
        refine step z7 1 (d5 + 65536 - (d6 + bo)) (by omega) (by omega) ?_ (by omega) nv8 e8
        rw [e7, e10, ← pk_sub (show d6 + bo ≤ d5 + 65536 by omega), ← nI_add d5 65536, show nI 65536 = 65536 * 1 from by decide]
        grind
    refine ⟨h5, fun w => absurd w (nI_ge (by omega) (by omega)), fun _ => ⟨h5, h5, b_in (by omega) (by omega), h6, fun w => fin 0 _ ?_ ez5.symm, fun w => ⟨h6, h6, b_in (by omega) (by omega), fin _ _ ?_ ez5.symm⟩⟩⟩
    · rw [ez6, if_neg (fun q => nI_ge q (by omega) w)]
    · rw [ez6, if_pos (Classical.byContradiction (fun q => w (nI_le (by omega) (by omega))))]
theorem b_ite2 {p q : Prop} [Decidable p] [Decidable q] : ((if p then (1 : Int32) else 0) = (if q then 1 else 0)) ↔ (p ↔ q) := by
  by_cases hp : p <;> by_cases hq : q
  · rw [if_pos hp, if_pos hq]; exact ⟨fun _ => ⟨fun _ => hq, fun _ => hp⟩, fun _ => rfl⟩
  · rw [if_pos hp, if_neg hq]; exact ⟨fun z => absurd z (by decide), fun z => absurd (z.1 hp) hq⟩
  · rw [if_neg hp, if_pos hq]; exact ⟨fun z => absurd z (by decide), fun z => absurd (z.2 hq) hp⟩
  · rw [if_neg hp, if_neg hq]; exact ⟨fun _ => ⟨fun z => absurd z hp, fun z => absurd z hq⟩, fun _ => rfl⟩
theorem b_01 {p : Prop} [Decidable p] : (if p then (1 : Int32) else 0) = 0 ∨ (if p then (1 : Int32) else 0) = 1 := by
  by_cases hp : p
  · rw [if_pos hp]; exact Or.inr rfl
  · rw [if_neg hp]; exact Or.inl rfl
/-- less -/
theorem pn_less {post : (Nat → px_NV) → Prop} {x y : Int} (h0 : a0 < 200) (h1 : a1 < 200) (h2 : a2 < 200) (h01 : a1 ≠ a0) (h02 : a2 ≠ a0) (h12 : a1 ≠ a2) (hx : pn_N (nv a1) x) (hy : pn_N (nv a2) y) (bx : x.natAbs < 65536 ^ 159) (by_ : y.natAbs < 65536 ^ 159) (h : ∀ nv', (∀ c, c ≠ a0 → nv' c = nv c) → pn_N (nv' a0) (x - y) → post nv') : w17_wp a0 a1 a2 post nv := by
  obtain ⟨k1, c1, p1, p2, p3, p4, p5, p6⟩ := pn_Nk hx bx
  obtain ⟨k2, c2, q1, q2, q3, q4, q5, q6⟩ := pn_Nk hy by_
  have zx := pn_k0 p2 p3 p4 p5
  have zy := pn_k0 q2 q3 q4 q5
  -- the sum
  have sum : (k1 = 0 ∨ k2 = 0 ∨ ((x < 0) ↔ (0 < y))) → w17_L42 a0 a1 a2 post (if 0 < y then 1 else 0) nv := by
    intro hc
    have hz : pn_v (nv a1).2.2 k1 + pn_v (nv a2).2.2 k2 = (x - y).natAbs := by rw [p5, q5]; omega
    have hs : ¬ x - y = 0 → (if k1 = 0 then (if 0 < y then (1 : Int32) else 0) else (nv a1).2.1) = (if x - y < 0 then 1 else 0) := by
      intro _
      by_cases w : k1 = 0
      · rw [if_pos w, b_ite2]; have := zx.1 w; omega
      · rw [if_neg w, p6, b_ite2]; omega
    have fin : ∀ K, k1 ≤ K → k2 ≤ K → K < 160 → w17_L64 a0 a1 a2 post (if 0 < y then 1 else 0) (nI K) nv := by
      intro K w1 w2 w3
      refine ⟨K + 1, ?_⟩
      exact pn_sumL h0 h1 h2 h01 h02 p2 q2 rfl rfl p3 q3 w1 w2 w3 hz (by rw [p6]; exact b_01) b_01 hs h K 0 0 nv (by omega) (by omega) (fun _ _ => rfl) (fun i hi => absurd hi (Nat.not_lt_zero i)) rfl
    unfold w17_L42
    rw [p2, q2]
    refine ⟨h1, h2, fun w => ⟨h2, fin k2 ?_ (Nat.le_refl _) (by omega)⟩, fun w => ⟨h1, fin k1 (Nat.le_refl _) ?_ (by omega)⟩⟩
    · exact Classical.byContradiction (fun q => nI_ge (show k2 < k1 by omega) (by omega) w)
    · exact Classical.byContradiction (fun q => w (nI_le (by omega) (by omega)))
  have dif : ¬ k1 = 0 → ¬ k2 = 0 → ¬ ((x < 0) ↔ (0 < y)) → px_ix [a1, a2] ∧ (ncs_wp (fun r193 v27 v28 v29 v30 v31 v32 => ∀ nv34 : Nat → px_NV, nv34 = px_fold nv [(a1, ⟨v27, v28, v29⟩), (a2, ⟨v30, v31, v32⟩)] → ((r193 < 0 → w17_L204 a0 a1 a2 post (if 0 < y then 1 else 0) 0 nv34) ∧ (¬ r193 < 0 → w17_L204 a0 a1 a2 post (if 0 < y then 1 else 0) 1 nv34))) ((nv a1).1) ((nv a1).2.1) ((nv a1).2.2) ((nv a2).1) ((nv a2).2.1) ((nv a2).2.2)) := by
    intro w1 w2 w3
    refine ⟨⟨by simp [h12], fun i hi => by simp at hi; rcases hi with q | q <;> (subst q; assumption)⟩, ?_⟩
    rw [p2, q2]
    refine pn_compare p1 q1 p3 q3 p4 q4 (fun nv34 e34 => ?_)
    have ev : nv34 = nv := by
      rw [e34, ← p2, ← q2]
      show va_up (va_up nv a2 (nv a2)) a1 (nv a1) = nv
      funext c
      by_cases s1 : c = a1
      · subst s1; rw [va_up_self]
      · rw [pn_un s1]
        by_cases s2 : c = a2
        · subst s2; rw [va_up_self]
        · rw [pn_un s2]
    rw [ev, p5, q5]
    have hx0 : ¬ x = 0 := fun q => w1 (zx.2 q)
    have hy0 : ¬ y = 0 := fun q => w2 (zy.2 q)
    by_cases g : x.natAbs < y.natAbs
    · rw [show pn_cmp x.natAbs y.natAbs = -1 from if_pos g]
      refine ⟨fun _ => ?_, fun w => absurd (by decide) w⟩
      refine ⟨fun _ => ⟨fun _ => ⟨k2 + 1, ?_⟩, fun w => absurd rfl w⟩, fun w => absurd rfl w⟩
      have hk : k1 ≤ k2 := by
        refine Classical.byContradiction (fun q => ?_)
        have r1 := pn_v_ge (f := (nv a1).2.2) (k := k1 - 1) (by rw [show k1 - 1 + 1 = k1 by omega]; exact p3) (p4.resolve_left w1)
        have r2 := pn_v_lt k2 q3
        have r3 : 65536 ^ k2 ≤ 65536 ^ (k1 - 1) := Nat.pow_le_pow_right (by decide) (by omega)
        rw [show k1 - 1 + 1 = k1 by omega, p5] at r1
        rw [q5] at r2
        omega
      refine pn_difL (z := x - y) h0 h1 h2 h1 h01 h02 h01 q2 p2 rfl rfl q3 p3 q1 hk (by rw [p5, q5]; omega) (by rw [p5, q5]; omega) (by rw [p6]; exact b_01) b_01 (fun _ => ?_) h k2 0 0 nv (by omega) (by omega) (fun _ _ => rfl) (fun i hi => absurd hi (Nat.not_lt_zero i)) rfl
      rw [if_pos rfl, b_ite2]; omega
    · have hc : pn_cmp x.natAbs y.natAbs = 0 ∨ pn_cmp x.natAbs y.natAbs = 1 := by
        unfold pn_cmp; rw [if_neg g]; split
        · exact Or.inr rfl
        · exact Or.inl rfl
      refine ⟨fun w => by rcases hc with q | q <;> (rw [q] at w; exact absurd w (by decide)), fun _ => ?_⟩
      refine ⟨fun w => absurd w t_10, fun _ => ⟨fun w => absurd w t_10, fun _ => ⟨k1 + 1, ?_⟩⟩⟩
      have hk : k2 ≤ k1 := by
        refine Classical.byContradiction (fun q => ?_)
        have r1 := pn_v_ge (f := (nv a2).2.2) (k := k2 - 1) (by rw [show k2 - 1 + 1 = k2 by omega]; exact q3) (q4.resolve_left w2)
        have r2 := pn_v_lt k1 p3
        have r3 : 65536 ^ k1 ≤ 65536 ^ (k2 - 1) := Nat.pow_le_pow_right (by decide) (by omega)
        rw [show k2 - 1 + 1 = k2 by omega, q5] at r1
        rw [p5] at r2
        omega
      refine pn_difL (z := x - y) h0 h1 h1 h2 h01 h01 h02 p2 q2 rfl rfl p3 q3 p1 hk (by rw [p5, q5]; omega) (by rw [p5, q5]; omega) (by rw [p6]; exact b_01) b_01 (fun _ => ?_) h k1 0 0 nv (by omega) (by omega) (fun _ _ => rfl) (fun i hi => absurd hi (Nat.not_lt_zero i)) rfl
      rw [if_neg t_10, p6, b_ite2]; omega
  have all : w17_L19 a0 a1 a2 post (if 0 < y then 1 else 0) nv := by
    unfold w17_L19
    refine ⟨h1, fun w => sum (Or.inl ?_), fun w => ⟨h2, fun w' => sum (Or.inr (Or.inl ?_)), fun w' => ⟨h1, fun w'' => dif ?_ ?_ ?_, fun w'' => sum (Or.inr (Or.inr ?_))⟩⟩⟩
    · rw [p2] at w; exact Classical.byContradiction (fun q => nI_ne0 (by omega) (by omega) w)
    · rw [q2] at w'; exact Classical.byContradiction (fun q => nI_ne0 (by omega) (by omega) w')
    · exact fun q => w (by rw [p2, q]; rfl)
    · exact fun q => w' (by rw [q2, q]; rfl)
    · rw [p6, b_ite2] at w''; exact w''
    · rw [p6, b_ite2] at w''; exact w''
  unfold w17_wp w17_L18
  refine ⟨h2, fun w => ?_, fun w => ⟨h2, fun w' => ?_, fun w' => ?_⟩⟩
  · rw [q2] at w
    have : y = 0 := zy.1 (Classical.byContradiction (fun q => nI_nle (by omega) (by omega) w))
    rw [if_neg (by omega)] at all; exact all
  · rw [q6] at w'
    have : y < 0 := Classical.byContradiction (fun q => w' (if_neg q))
    rw [if_neg (by omega)] at all; exact all
  · rw [q6] at w'
    have : ¬ y < 0 := fun q => by rw [if_pos q] at w'; exact t_10 w'
    have : ¬ y = 0 := fun q => w (by rw [q2, zy.2 q]; exact Int32.le_refl 0)
    rw [if_pos (by omega)] at all; exact all
end RNU
