/-! PURE, the reference: pivotOf, against -/
section RPO
variable {p n r m i j t : Nat} {K : Nat → Nat → Int} {piv : Nat → Nat} {iv gs gf gk gq : Nat → Int32} {nv : Nat → px_NV} {z : Int}
theorem r_kN0 {P : Nat} (h : r_kN gk P z) : gk P = 0 ↔ z = 0 := by
  obtain ⟨k, k1, k2, k3, k4, k5⟩ := h
  by_cases q : k = 0
  · subst q
    have hz : z = 0 := by
      have : (0 : Nat) = z.natAbs := k5
      omega
    rw [k2, hz]
    exact ⟨fun _ => rfl, fun _ => rfl⟩
  · have hz : ¬ z = 0 := fun w => by
      have h4 := k4.resolve_left q
      have h5 : pn_v (fun j => gk (P + 1 + j)) (k - 1 + 1) = z.natAbs := by rw [show k - 1 + 1 = k by omega]; exact k5
      have h6 := pn_v_ge (f := fun j => gk (P + 1 + j)) (k := k - 1) (by rw [show k - 1 + 1 = k by omega]; exact k3) h4
      rw [h5, w] at h6
      have : 0 < 65536 ^ (k - 1) := Nat.pow_pos (by decide)
      have h7 : (0 : Int).natAbs = 0 := rfl
      omega
    refine ⟨fun w => absurd ?_ hz, fun w => absurd w hz⟩
    rw [k2] at w
    have key : ∀ k, k < 24 → k ≠ 0 → ¬ nI k = 0 ∧ ¬ - nI k = 0 := by decide +kernel
    have hk := key k (by omega) q
    split at w
    · exact absurd w hk.2
    · exact absurd w hk.1
theorem b_at3 {m i j : Nat} : ((144 : Int32) * nI m + (12 : Int32) * nI i) + nI j = nI (144 * m + 12 * i + j) := by
  rw [show (144 : Int32) = nI 144 from rfl, show (12 : Int32) = nI 12 from rfl, pk_mul, pk_mul, nI_add, nI_add]
theorem b_at24 {d : Nat} : (24 : Int32) * nI d = nI (24 * d) := by
  rw [show (24 : Int32) = nI 24 from rfl, pk_mul]
theorem r_pivotOf {post : Int32 → (Nat → Int32) → (Nat → Int32) → (Nat → Int32) → (Nat → Int32) → Prop} (hp : p < 256) (hm : m < 26) (hi : i < r) (hK : x_KK p n r piv K) (hgf : gf m = nI p) (hk : ∀ i, i < r → ∀ j, j < n → r_ke p gk gq (144 * m + 12 * i + j) (K i j)) (h : post (nI (piv i)) iv gf gk gq) : w90_wp post (nI m) (nI i) iv gf gk gq := by
  obtain ⟨s2, g1, s3, s4, s5, s6, s7, s8, s9⟩ := hK
  have hpi := s3 i hi
  have main : ∀ (u j : Nat), j + u = piv i → w90_L2 post (u + 1) (nI m) (nI i) (nI j) iv gf gk gq := by
    intro u
    induction u with
    | zero =>
      intro j hj
      have : j = piv i := by omega
      subst this
      have hke := hk i hi (piv i) hpi.1
      have hne : ¬ K i (piv i) = 0 := by omega
      unfold w90_L2 w90_L63
      rw [nI_clamp (show m < 2 ^ 31 by omega), hgf, b_at3, b_at24, nI_clamp (show 144 * m + 12 * i + piv i < 2 ^ 31 by omega), nI_clamp (show 24 * (144 * m + 12 * i + piv i) < 2 ^ 31 by omega)]
      refine ⟨b_in hm (by omega), fun w => ⟨b_in (by omega) (by omega), fun _ => h, fun w' => ?_⟩, fun w => ⟨b_in (by omega) (by omega), fun _ => h, fun w' => ?_⟩⟩
      · have p0 : p ≠ 0 := fun q => w (by rw [q]; rfl)
        unfold r_ke at hke
        rw [if_neg p0] at hke
        rw [hke.1] at w'
        exact absurd w' (nI_ne0 (by omega) (by omega))
      · have p0 : p = 0 := Classical.byContradiction (fun q => nI_ne0 (by omega) (by omega) w)
        unfold r_ke at hke
        rw [if_pos p0] at hke
        exact absurd ((r_kN0 hke).1 w') hne
    | succ u ih =>
      intro j hj
      have hke := hk i hi j (by omega)
      have hz : K i j = 0 := s6 i hi j (by omega)
      rw [hz] at hke
      unfold w90_L2 w90_L57
      rw [nI_clamp (show m < 2 ^ 31 by omega), hgf, b_at3, b_at24, nI_clamp (show 144 * m + 12 * i + j < 2 ^ 31 by omega), nI_clamp (show 24 * (144 * m + 12 * i + j) < 2 ^ 31 by omega)]
      refine ⟨b_in hm (by omega), fun w => ⟨b_in (by omega) (by omega), fun w' => ?_, fun _ z e => ?_⟩, fun w => ⟨b_in (by omega) (by omega), fun w' => ?_, fun _ z e => ?_⟩⟩
      · have p0 : p ≠ 0 := fun q => w (by rw [q]; rfl)
        unfold r_ke at hke
        rw [if_neg p0] at hke
        exact absurd hke.1 w'
      · rw [e, nI_1]; exact ih (j + 1) (by omega)
      · have p0 : p = 0 := Classical.byContradiction (fun q => nI_ne0 (by omega) (by omega) w)
        unfold r_ke at hke
        rw [if_pos p0] at hke
        exact absurd ((r_kN0 hke).2 rfl) w'
      · rw [e, nI_1]; exact ih (j + 1) (by omega)
  exact ⟨piv i + 1, main (piv i) 0 (by omega)⟩
theorem pn_smP {Q : (Nat → px_NV) → Prop} {a0 : Nat} {x : Int} (h0 : a0 < 200) (h1 : -2 ^ 62 ≤ x) (h2 : x < 2 ^ 62) (h : ∀ nv', (∀ c, c ≠ a0 → nv' c = nv c) → pn_N (nv' a0) x → Q nv') : px_ix [a0] ∧ (nsm_wp (fun v1 v2 v3 => ∀ nv' : Nat → px_NV, nv' = px_fold nv [(a0, ⟨v1, v2, v3⟩)] → Q nv') (iL x) ((nv a0).1) ((nv a0).2.1) ((nv a0).2.2)) := by
  refine ⟨⟨by simp, fun c hc => by rw [List.mem_singleton.mp hc]; exact h0⟩, pn_small h1 h2 (fun n' m' f' hN nv' e => h nv' (fun c hc => by rw [e]; exact pn_un hc) ?_)⟩
  rw [e]
  show pn_N (va_up nv a0 _ a0) _
  rw [va_up_self]
  exact hN
theorem b_neg64 : ∀ a, a < 256 → (-(nI a)).toInt64 = iL (-(a : Int)) := by decide +kernel
/-- one pivot column of a row of the dual -/
theorem r_against {post : (Nat → Int32) → (Nat → Int32) → (Nat → Int32) → (Nat → Int32) → (Nat → Int32) → (Nat → px_NV) → Prop} {E : Int} (hp : p = 0 ∨ (1 < p ∧ p < 256)) (hm : m < 26) (hi : i < r) (hj : j < n) (ht : t < 13) (hr : r ≤ 12) (hK : x_KK p n r piv K) (hgf : gf m = nI p) (hiv : iv 12 = nI p) (hiv0 : iv 10 = nI t) (hk : ∀ i, i < r → ∀ j, j < n → r_ke p gk gq (144 * m + 12 * i + j) (K i j)) (hE : p = 0 → pn_N (nv 199) E ∧ E.natAbs ≤ (2 ^ 142) ^ 6)
    (h : ∀ gs' nv', (∀ d, d ≠ 12 * t + piv i → gs' d = gs d) → (∀ d, d < 156 → d ≠ 12 * t + piv i → nv' d = nv d) → nv' 199 = nv 199 → r_e p gs' nv' (12 * t + piv i) (if p = 0 then -(E.tdiv (K i (piv i)) * K i j) else (-(K i j)) % (p : Int)) → ((∃ z, pn_N (nv (12 * t + piv i)) z) → ∃ z, pn_N (nv' (12 * t + piv i)) z) → post iv gs' gf gk gq nv') : w92_wp post (nI m) (nI i) (nI j) iv gs gf gk gq nv := by
  have hp256 : p < 256 := by
    rcases hp with q | q
    · rw [q]; decide
    · exact q.2
  have hpi := (id hK).2.2.1 i hi
  have hn := (id hK).2.1
  refine r_pivotOf hp256 hm hi hK hgf hk ?_
  rw [b_at3, b_at3, b_at24, b_at24, hiv, hiv0, nI_clamp (show 144 * m + 12 * i + j < 2 ^ 31 by omega)]
  refine ⟨fun w => ?_, fun w => ?_⟩
  · have p0 : p = 0 := Classical.byContradiction (fun q => absurd w (by rw [show (0 : Int32) = nI 0 from rfl]; exact nI_ge (by omega) (by omega)))
    subst p0
    have k1 := hk i hi (piv i) hpi.1
    have k2 := hk i hi j hj
    unfold r_ke at k1 k2
    rw [if_pos rfl] at k1 k2
    obtain ⟨e1, e2⟩ := hE rfl
    have b1 := (hK.2.2.2.2.2.2.2.1 rfl i hi).2 _ hpi.1
    have b2 := (hK.2.2.2.2.2.2.2.1 rfl i hi).2 _ hj
    have h142 : (2 : Nat) ^ 142 < 65536 ^ 9 := by decide +kernel
    have h159 : (65536 : Nat) ^ 9 ≤ 65536 ^ 159 := by decide +kernel
    have h852 : ((2 : Nat) ^ 142) ^ 6 < 65536 ^ 54 := by decide +kernel
    refine r_fetch (by decide) (by omega) k1 (fun nv1 n1 r1 => ?_)
    refine pn_quP (by decide) (by decide) (by decide) (by decide) (by decide) (by decide) (by decide) (by decide) (by decide) (by decide) (by rw [n1 199 (by decide)]; exact e1) r1 (Nat.lt_of_le_of_lt b1 (Nat.lt_of_lt_of_le h142 h159)) (by omega) (fun nv2 n2 r2 _ => ?_)
    refine r_fetch (by decide) (by omega) k2 (fun nv3 n3 r3 => ?_)
    rw [hiv0]
    refine r_at ht (by omega) ?_
    refine pn_prP (c := 54) (d := 9) (by omega) (by decide) (by decide) (by omega) (by omega) (by decide) (by rw [n3 198 (by decide)]; exact r2) r3 (by
      rw [Int.natAbs_tdiv]
      exact Nat.lt_of_le_of_lt (Nat.le_trans (Nat.div_le_self _ _) e2) h852) (Nat.lt_of_le_of_lt b2 h142) (by decide) (fun nv4 n4 r4 => ?_)
    rw [hiv0]
    refine r_at ht (by omega) ?_
    refine pn_turnP (by omega) r4 (fun nv5 n5 r5 => ?_)
    refine h gs nv5 (fun _ _ => rfl) (fun d hd q => ?_) ?_ ?_ (fun _ => ⟨_, r5⟩)
    · rw [n5 d q, n4 d q, n3 d (by omega), n2 d (by omega) (by omega), n1 d (by omega)]
    · rw [n5 199 (by omega), n4 199 (by omega), n3 199 (by decide), n2 199 (by decide) (by decide), n1 199 (by decide)]
    · unfold r_e
      rw [if_pos rfl, if_pos rfl]
      exact r5
  · have p0 : p ≠ 0 := fun q => w (by rw [q]; exact Int32.le_refl 0)
    have k2 := hk i hi j hj
    unfold r_ke at k2
    rw [if_neg p0] at k2
    rw [k2.1, b_neg64 _ (by omega), Int.toNat_of_nonneg k2.2.1]
    refine ⟨b_in (by omega) (by omega), r_put (v := -(K i j)) hp hiv ht (by omega) (by omega) (by omega) (fun gs' nv' a1 a2 a3 a4 => h gs' nv' a1 (fun d _ q => a2 d q) (a2 199 (by omega)) ?_ a4)⟩
    rw [if_neg p0] at a3 ⊢
    exact a3
end RPO
