/-! PURE, the reference: put, cell -/
/-- the entry at place d is z -/
def r_e (p : Nat) (gs : Nat → Int32) (nv : Nat → px_NV) (d : Nat) (z : Int) : Prop := if p = 0 then pn_N (nv d) z else gs d = nI z.toNat ∧ 0 ≤ z ∧ z < p
theorem iL_tmod {a p : Int} (ha1 : -2 ^ 62 < a) (ha2 : a < 2 ^ 62) (hp1 : 0 < p) (hp2 : p < 2 ^ 31) : iL a - iL a / iL p * iL p = iL (a.tmod p) := by
  have ed : iL a / iL p = iL (a.tdiv p) := by
    have h1 : (a.tdiv p).natAbs ≤ a.natAbs := by
      rw [Int.natAbs_tdiv]; exact Nat.div_le_self _ _
    apply Int64.toInt_inj.1
    rw [Int64.toInt_div, iL_toInt (by omega) (by omega), iL_toInt (by omega) (by omega), iL_toInt (by omega) (by omega), Int.bmod_eq_of_le (by omega) (by omega)]
  rw [ed, iL_mul, iL_sub]
  congr 1
  have := Int.tmod_add_mul_tdiv a p
  rw [Int.mul_comm] at this
  omega
theorem x_tml {a p : Int} (hp : 0 < p) : - p < a.tmod p := by
  have : (a.tmod p).natAbs < p.natAbs := by rw [Int.natAbs_tmod]; exact Nat.mod_lt _ (by omega)
  omega
theorem x_ttm {a p : Int} (hp : 0 < p) : (a.tmod p + p).tmod p = a % p := by
  have h1 := Int.tmod_lt_of_pos a hp
  have h2 := x_tml (a := a) hp
  rw [Int.tmod_eq_emod_of_nonneg (by omega), Int.add_emod_right]
  have := Int.tmod_add_mul_tdiv a p
  have e : a % p = (a.tmod p + p * a.tdiv p) % p := by rw [this]
  rw [e, Int.add_mul_emod_self_left]
section RPU
variable {nv : Nat → px_NV} {iv gs gk gq : Nat → Int32} {p i j : Nat} {v : Int}
theorem r_put {post : (Nat → Int32) → (Nat → Int32) → (Nat → px_NV) → Prop} (hp : p = 0 ∨ (1 < p ∧ p < 256)) (hiv : iv 12 = nI p) (hi : i < 13) (hj : j < 12) (hv1 : -2 ^ 61 < v) (hv2 : v < 2 ^ 61) (h : ∀ gs' nv', (∀ d, d ≠ 12 * i + j → gs' d = gs d) → (∀ d, d ≠ 12 * i + j → nv' d = nv d) → r_e p gs' nv' (12 * i + j) (if p = 0 then v else v % (p : Int)) → ((∃ z, pn_N (nv (12 * i + j)) z) → ∃ z, pn_N (nv' (12 * i + j)) z) → post iv gs' nv') : w49_wp post (nI i) (nI j) (iL v) iv gs nv := by
  unfold w49_wp w49_L51
  rw [hiv]
  refine ⟨fun w => ?_, fun w => ?_⟩
  · have hp0 : p ≠ 0 := fun q => w (by rw [q]; rfl)
    obtain ⟨hp1, hp2⟩ := hp.resolve_left hp0
    have hl : (nI p).toInt64 = iL (p : Int) := by rw [nL_of (by omega), iL_n]
    have hl0 : ¬ (nI p).toInt64 = 0 := by
      rw [nL_of (by omega)]
      intro z
      have : nL p = nL 0 := z
      have := nL_inj (by omega) (by decide) this
      omega
    rw [hl] at hl0 ⊢
    have b1 := Int.tmod_lt_of_pos v (show (0 : Int) < p by omega)
    have b2 := x_tml (a := v) (show (0 : Int) < p by omega)
    have m1 := Int.emod_nonneg v (show (p : Int) ≠ 0 by omega)
    have m2 := Int.emod_lt_of_pos v (show (0 : Int) < p by omega)
    rw [b_ix12, nI_clamp (show 12 * i + j < 2 ^ 31 by omega), iL_tmod (by omega) (by omega) (by omega) (by omega), iL_add, iL_tmod (by omega) (by omega) (by omega) (by omega), x_ttm (by omega)]
    refine ⟨hl0, hl0, fun z1 e1 => ⟨b_in (by omega) (by omega), h _ nv (fun d hd => pk_un hd) (fun _ _ => rfl) ?_ (fun q => q)⟩⟩
    have e1 : z1 = nI (v % (p : Int)).toNat := by
      rw [e1, ← nL_to32, iL_n, Int.toNat_of_nonneg m1]
    unfold r_e
    rw [if_neg hp0, if_neg hp0, pk_us, e1]
    exact ⟨rfl, m1, m2⟩
  · have hp0 : p = 0 := Classical.byContradiction (fun q => nI_ne0 (by omega) (by omega) w)
    subst hp0
    refine r_at hi hj ⟨⟨by simp, fun c hc => by rw [List.mem_singleton.mp hc]; omega⟩, pn_small (by omega) (by omega) (fun n' m' f' hN nv8 e8 => ?_)⟩
    have e0 : nv8 (12 * i + j) = ⟨n', m', f'⟩ := by
      rw [e8]
      show va_up nv (12 * i + j) _ (12 * i + j) = _
      rw [va_up_self]
    refine h gs nv8 (fun _ _ => rfl) (fun d hd => ?_) ?_ (fun _ => ⟨v, by rw [e0]; exact hN⟩)
    · rw [e8]; exact pn_un hd
    · unfold r_e
      rw [if_pos rfl, if_pos rfl, e0]; exact hN
/-- the entry kept at place at -/
def r_ke (p : Nat) (gk gq : Nat → Int32) (at_ : Nat) (z : Int) : Prop := if p = 0 then r_kN gk (24 * at_) z else gq at_ = nI z.toNat ∧ 0 ≤ z ∧ z < p
theorem r_cell {post : (Nat → Int32) → (Nat → Int32) → (Nat → Int32) → (Nat → Int32) → (Nat → px_NV) → Prop} {m i0 j0 : Nat} {z : Int} (hp : p < 256) (hiv : iv 12 = nI p) (hm : m < 26) (hi0 : i0 < 12) (hj0 : j0 < 12) (hi : i < 13) (hj : j < 12) (hz : r_ke p gk gq (144 * m + 12 * i0 + j0) z) (h : ∀ gs' nv', (∀ d, d ≠ 12 * i + j → gs' d = gs d) → (∀ d, d ≠ 12 * i + j → nv' d = nv d) → r_e p gs' nv' (12 * i + j) z → ((∃ z, pn_N (nv (12 * i + j)) z) → ∃ z, pn_N (nv' (12 * i + j)) z) → post iv gs' gk gq nv') : w68_wp post (nI m) (nI i0) (nI j0) (nI i) (nI j) iv gs gk gq nv := by
  unfold w68_wp w68_L58
  rw [show (144 : Int32) = nI 144 from rfl, show (12 : Int32) = nI 12 from rfl, pk_mul, pk_mul, nI_add, nI_add, pk_mul, nI_add, nI_clamp (show 12 * i + j < 2 ^ 31 by omega), hiv]
  intro z1 e1
  rw [e1, nI_clamp (by omega)]
  unfold r_ke at hz
  refine ⟨b_in (by omega) (by omega), fun z2 e2 => ⟨b_in (by omega) (by omega), fun w => ?_, fun w => ?_⟩⟩
  · have hp0 : p ≠ 0 := fun q => w (by rw [q]; rfl)
    rw [if_neg hp0] at hz
    refine h _ nv (fun d hd => pk_un hd) (fun _ _ => rfl) ?_ (fun q => q)
    unfold r_e
    rw [if_neg hp0, pk_us, e2]; exact hz
  · have hp0 : p = 0 := Classical.byContradiction (fun q => nI_ne0 (by omega) (by omega) w)
    subst hp0
    rw [if_pos rfl] at hz
    refine r_at hi hj ?_
    rw [show (24 : Int32) = nI 24 from rfl, pk_mul]
    refine r_fetch (by omega) (by omega) hz (fun nv' k1 k2 => h _ nv' (fun d hd => pk_un hd) k1 ?_ (fun _ => ⟨z, k2⟩))
    unfold r_e
    rw [if_pos rfl]; exact k2
end RPU
