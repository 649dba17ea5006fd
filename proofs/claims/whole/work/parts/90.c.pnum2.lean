/-! PURE: values of digits; compareSize -/
theorem pn_dn {f : Nat → Int32} {k j : Nat} (h : pn_d f k) (hj : j < k) : ∃ d : Nat, d < 65536 ∧ f j = nI d ∧ (f j).toNatClampNeg = d := by
  obtain ⟨d, hd, e⟩ := h j hj
  exact ⟨d, hd, e, by rw [e, nI_clamp (by omega)]⟩
theorem pn_dm {f : Nat → Int32} {k j : Nat} (h : pn_d f k) (hj : j ≤ k) : pn_d f j := fun i hi => h i (by omega)
theorem pn_v_congr {f g : Nat → Int32} : ∀ (k : Nat), (∀ j, j < k → f j = g j) → pn_v f k = pn_v g k
  | 0, _ => rfl
  | k + 1, h => by
    show pn_v f k + _ = pn_v g k + _
    rw [pn_v_congr k (fun j hj => h j (by omega)), h k (by omega)]
theorem pn_v_lt {f : Nat → Int32} : ∀ (k : Nat), pn_d f k → pn_v f k < 65536 ^ k
  | 0, _ => Nat.zero_lt_one
  | k + 1, h => by
    have ih := pn_v_lt k (pn_dm h (by omega))
    obtain ⟨d, hd, -, e⟩ := pn_dn h (show k < k + 1 by omega)
    show pn_v f k + _ < _
    rw [e, Nat.pow_succ]
    have : d * 65536 ^ k ≤ 65535 * 65536 ^ k := Nat.mul_le_mul_right _ (by omega)
    omega
theorem pn_v_mono {f : Nat → Int32} {k : Nat} : ∀ (r : Nat), pn_v f k ≤ pn_v f (k + r)
  | 0 => Nat.le_refl _
  | r + 1 => Nat.le_trans (pn_v_mono r) (Nat.le_add_right _ _)
theorem pn_v_ge {f : Nat → Int32} {k : Nat} (h : pn_d f (k + 1)) (h0 : ¬ f k = 0) : 65536 ^ k ≤ pn_v f (k + 1) := by
  obtain ⟨d, hd, e1, e⟩ := pn_dn h (show k < k + 1 by omega)
  show _ ≤ pn_v f k + _
  rw [e]
  have hd0 : 1 ≤ d := by
    rcases Nat.eq_zero_or_pos d with h1 | h1
    · exact absurd (by rw [e1, h1, nI_0]) h0
    · exact h1
  have : 1 * 65536 ^ k ≤ d * 65536 ^ k := Nat.mul_le_mul_right _ hd0
  omega
/-- alike above place i, and smaller there -/
theorem pn_v_top {f g : Nat → Int32} {i : Nat} : ∀ (r : Nat), pn_d f (i + 1 + r) → pn_d g (i + 1 + r) → (∀ j, i < j → j < i + 1 + r → f j = g j) → (f i).toNatClampNeg < (g i).toNatClampNeg → pn_v f (i + 1 + r) < pn_v g (i + 1 + r)
  | 0, hf, hg, _, h => by
    have h1 := pn_v_lt i (pn_dm hf (by omega))
    show pn_v f i + _ < pn_v g i + _
    have : (f i).toNatClampNeg * 65536 ^ i + 65536 ^ i ≤ (g i).toNatClampNeg * 65536 ^ i := by
      rw [← Nat.succ_mul]
      exact Nat.mul_le_mul_right _ h
    omega
  | r + 1, hf, hg, he, h => by
    have ih := pn_v_top r (pn_dm hf (by omega)) (pn_dm hg (by omega)) (fun j h1 h2 => he j h1 (by omega)) h
    have e := he (i + 1 + r) (by omega) (by omega)
    show pn_v f (i + 1 + r) + (f (i + 1 + r)).toNatClampNeg * 65536 ^ (i + 1 + r) < pn_v g (i + 1 + r) + (g (i + 1 + r)).toNatClampNeg * 65536 ^ (i + 1 + r)
    rw [e]
    omega
/-- -1, 0 or 1, as a is below, equal to or above b -/
def pn_cmp (a b : Nat) : Int32 := if a < b then -1 else if b < a then 1 else 0
theorem pn_cmpL {post : Int32 → Int32 → Int32 → (Nat → Int32) → Int32 → Int32 → (Nat → Int32) → Prop} {m0 m1 : Int32} {f0 f1 : Nat → Int32} {k : Nat} (hk : k ≤ 160) (h0 : pn_d f0 k) (h1 : pn_d f1 k) (h : post (pn_cmp (pn_v f0 k) (pn_v f1 k)) (nI k) m0 f0 (nI k) m1 f1) : ∀ (j : Nat), j ≤ k → (∀ i, j ≤ i → i < k → f0 i = f1 i) → ncs_L35 post (j + 1) (nI j - 1) (nI k) m0 f0 (nI k) m1 f1 := by
  intro j
  induction j with
  | zero =>
    intro hj he
    unfold ncs_L35
    have e : nI 0 - 1 = (-1 : Int32) := by decide +kernel
    rw [e]
    refine ⟨fun _ => ?_, fun hn => absurd (by decide +kernel) hn⟩
    unfold ncs_L60 ncs_L88
    refine ⟨fun hn => absurd hn (by decide +kernel), fun _ => ?_⟩
    rw [pn_v_congr k (fun i hi => he i (by omega) hi)] at h
    unfold pn_cmp at h
    rw [if_neg (Nat.lt_irrefl _), if_neg (Nat.lt_irrefl _)] at h
    exact h
  | succ j ih =>
    intro hj he
    unfold ncs_L35
    rw [nI_pred, nI_clamp (show j < 2 ^ 31 by omega)]
    have vin : vp_in (nI j) 160 := vp_in_nI (by omega) (by decide)
    refine ⟨fun hn => absurd hn (nI_pos (by omega)), fun _ => ⟨vin, vin, fun hne => ?_, fun heq z1 hz => ?_⟩⟩
    · unfold ncs_L60 ncs_L88
      rw [nI_clamp (show j < 2 ^ 31 by omega)]
      obtain ⟨a, ha, ea, ca⟩ := pn_dn h0 (show j < k by omega)
      obtain ⟨b, hb, eb, cb⟩ := pn_dn h1 (show j < k by omega)
      have hab : a ≠ b := fun q => hne (by rw [ea, eb, q])
      have hkj : k = j + 1 + (k - (j + 1)) := by omega
      have lt1 : a < b → pn_v f0 k < pn_v f1 k := fun q => by
        rw [hkj]
        exact pn_v_top _ (by rw [← hkj]; exact h0) (by rw [← hkj]; exact h1) (fun i q1 q2 => he i (by omega) (by omega)) (by rw [ca, cb]; exact q)
      have lt2 : b < a → pn_v f1 k < pn_v f0 k := fun q => by
        rw [hkj]
        exact pn_v_top _ (by rw [← hkj]; exact h1) (by rw [← hkj]; exact h0) (fun i q1 q2 => (he i (by omega) (by omega)).symm) (by rw [ca, cb]; exact q)
      refine ⟨fun _ => ⟨vin, vin, fun hle => ?_, fun hle => ?_⟩, fun hn => absurd (nI_pos' (by omega)) hn⟩
      · rw [ea, eb, nI_leI (by omega) (by omega)] at hle
        have hlt := lt2 (by omega)
        unfold pn_cmp at h
        rw [if_neg (by omega), if_pos hlt] at h
        exact h
      · rw [ea, eb, nI_leI (by omega) (by omega)] at hle
        have hlt := lt1 (by omega)
        unfold pn_cmp at h
        rw [if_pos hlt] at h
        exact h
    · have e : nI j + (-1) = nI j - 1 := by rw [Int32.sub_eq_add_neg]
      rw [hz, e]
      refine ih (by omega) (fun i q1 q2 => ?_)
      by_cases hij : i = j
      · rw [hij]; exact heq
      · exact he i (by omega) q2
/-- compareSize -/
theorem pn_compare {post : Int32 → Int32 → Int32 → (Nat → Int32) → Int32 → Int32 → (Nat → Int32) → Prop} {m0 m1 : Int32} {f0 f1 : Nat → Int32} {k l : Nat} (hk : k ≤ 160) (hl : l ≤ 160) (h0 : pn_d f0 k) (h1 : pn_d f1 l) (t0 : k = 0 ∨ ¬ f0 (k - 1) = 0) (t1 : l = 0 ∨ ¬ f1 (l - 1) = 0) (h : post (pn_cmp (pn_v f0 k) (pn_v f1 l)) (nI k) m0 f0 (nI l) m1 f1) : ncs_wp post (nI k) m0 f0 (nI l) m1 f1 := by
  have gap : ∀ {f g : Nat → Int32} {a b : Nat}, pn_d f a → pn_d g b → (b = 0 ∨ ¬ g (b - 1) = 0) → a < b → pn_v f a < pn_v g b := by
    intro f g a b hf hg ht hab
    rcases ht with ht | ht
    · omega
    · obtain ⟨c, hc⟩ : ∃ c, b = c + 1 := ⟨b - 1, by omega⟩
      subst hc
      have q1 := pn_v_lt a hf
      have q2 := pn_v_ge hg ht
      have q3 : 65536 ^ a ≤ 65536 ^ c := Nat.pow_le_pow_right (by decide) (by omega)
      omega
  unfold ncs_wp
  refine ⟨fun e z hz => ⟨k + 1, ?_⟩, fun e => ⟨fun hle => ?_, fun hle => ?_⟩⟩
  · rw [nI_eq (by omega) (by omega)] at e
    subst e
    rw [hz]
    exact pn_cmpL hk h0 h1 h k (Nat.le_refl k) (fun i q1 q2 => by omega)
  · rw [nI_eq (by omega) (by omega)] at e
    rw [nI_leI (by omega) (by omega)] at hle
    have := gap h1 h0 t0 (by omega)
    unfold ncs_L27
    unfold pn_cmp at h
    rw [if_neg (by omega), if_pos this] at h
    exact h
  · rw [nI_leI (by omega) (by omega)] at hle
    have := gap h0 h1 t1 (by omega)
    unfold ncs_L27
    unfold pn_cmp at h
    rw [if_pos this] at h
    exact h

