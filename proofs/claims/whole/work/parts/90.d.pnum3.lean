/-! PURE: product -/
theorem pn_v_upd {f : Nat → Int32} {j : Nat} (x : Int32) : ∀ (n : Nat), j < n → pn_v (upd f j x) n + (f j).toNatClampNeg * 65536 ^ j = pn_v f n + x.toNatClampNeg * 65536 ^ j
  | 0, h => by omega
  | n + 1, h => by
    show (pn_v (upd f j x) n + (upd f j x n).toNatClampNeg * 65536 ^ n) + _ = (pn_v f n + (f n).toNatClampNeg * 65536 ^ n) + _
    by_cases hn : n = j
    · subst hn
      have e : pn_v (upd f n x) n = pn_v f n := pn_v_congr n (fun i hi => by unfold upd; rw [if_neg (by omega)])
      have e2 : upd f n x n = x := by unfold upd; rw [if_pos rfl]
      rw [e, e2]
      omega
    · have ih := pn_v_upd (f := f) (j := j) x n (by omega)
      have e2 : upd f j x n = f n := by unfold upd; rw [if_neg hn]
      rw [e2]
      omega
theorem pn_d_upd {f : Nat → Int32} {n j d : Nat} (h : pn_d f n) (hd : d < 65536) : pn_d (upd f j (nI d)) n := by
  intro i hi
  unfold upd
  by_cases hij : i = j
  · rw [if_pos hij]; exact ⟨d, hd, rfl⟩
  · rw [if_neg hij]; exact h i hi
theorem pn_v_trim {g : Nat → Int32} {k : Nat} : ∀ (r : Nat), (∀ j, k ≤ j → j < k + r → g j = 0) → pn_v g (k + r) = pn_v g k
  | 0, _ => rfl
  | r + 1, h => by
    show pn_v g (k + r) + (g (k + r)).toNatClampNeg * 65536 ^ (k + r) = _
    rw [h (k + r) (by omega) (by omega), pn_v_trim r (fun j h1 h2 => h j h1 (by omega))]
    have : (0 : Int32).toNatClampNeg = 0 := by decide +kernel
    rw [this, Nat.zero_mul, Nat.add_zero]
theorem pn_v_zero {g : Nat → Int32} : ∀ (k : Nat), (∀ j, j < k → g j = 0) → pn_v g k = 0 := by
  intro k h
  have := pn_v_trim (g := g) (k := 0) k (fun j _ h2 => h j (by omega))
  rw [Nat.zero_add] at this
  rw [this]
  rfl
/-- a row of the product: a digit d times the second number, at place i -/
theorem pn_prI {K38 : Int32 → Int32 → Int32 → (Nat → Int32) → Int32 → Int32 → (Nat → Int32) → Int32 → Int32 → (Nat → Int32) → Prop} {post : Int32 → Int32 → (Nat → Int32) → Int32 → Int32 → (Nat → Int32) → Int32 → Int32 → (Nat → Int32) → Prop} {m0 m1 m2 : Int32} {f1 f2 : Nat → Int32} {k l i d V : Nat} (hkl : k + l ≤ 160) (hi : i < k) (hd : d < 65536) (ed : f1 i = nI d) (h2 : pn_d f2 l)
    (hK : ∀ g : Nat → Int32, pn_d g (k + l) → pn_v g (k + l) = V + d * 65536 ^ i * pn_v f2 l → (∀ q, i + 1 + l ≤ q → q < k + l → g q = 0) → K38 (nI (i + 1)) (nI (k + l)) m0 g (nI k) m1 f1 (nI l) m2 f2) :
    ∀ (r j : Nat) (g : Nat → Int32) (c : Nat), j + r = l → c < 65536 → pn_d g (k + l) → pn_v g (k + l) + c * 65536 ^ (i + j) = V + d * 65536 ^ i * pn_v f2 j → (∀ q, i + l ≤ q → q < k + l → g q = 0) → npr_L52 K38 post (r + 1) (nI i) (lN c) (nI j) (nI (k + l)) m0 g (nI k) m1 f1 (nI l) m2 f2 := by
  intro r
  induction r with
  | zero =>
    intro j g c hj hc hg hv hz
    have hjl : j = l := by omega
    subst hjl
    unfold npr_L52
    refine ⟨fun _ z4 e4 => ?_, fun h1 => absurd (nI_le (Nat.le_refl j) (by omega)) h1⟩
    rw [nI_add, nI_clamp (show i + j < 2 ^ 31 by omega)]
    refine ⟨vp_in_nI (by omega) (by decide), fun z5 e5 => ?_⟩
    rw [e5, nI_1, e4, lN_i]
    refine hK _ (pn_d_upd hg hc) ?_ (fun q h3 h4 => ?_)
    · have hu := pn_v_upd (f := g) (j := i + j) (nI c) (k + j) (by omega)
      have e0 : (0 : Int32).toNatClampNeg = 0 := by decide +kernel
      rw [hz (i + j) (by omega) (by omega), e0, Nat.zero_mul, Nat.add_zero, nI_clamp (show c < 2 ^ 31 by omega)] at hu
      rw [hu]
      exact hv
    · unfold upd
      rw [if_neg (by omega)]
      exact hz q (by omega) h4
  | succ r ih =>
    intro j g c hj hc hg hv hz
    unfold npr_L52
    refine ⟨fun h1 => absurd h1 (nI_ge (by omega) (by omega)), fun _ => ⟨vp_in_nI (by omega) (by decide), vp_in_nI (by omega) (by decide), ?_⟩⟩
    rw [nI_add, nI_clamp (show i + j < 2 ^ 31 by omega), nI_clamp (show i < 2 ^ 31 by omega), nI_clamp (show j < 2 ^ 31 by omega)]
    have vin : vp_in (nI (i + j)) 160 := vp_in_nI (by omega) (by decide)
    obtain ⟨e, he, ee, ce⟩ := pn_dn h2 (show j < l by omega)
    obtain ⟨b, hb, eb, cb⟩ := pn_dn hg (show i + j < k + l by omega)
    have hde : d * e ≤ 65535 * 65535 := Nat.mul_le_mul (by omega) (by omega)
    refine ⟨vin, fun z6 e6 z7 e7 => ⟨vin, fun z8 e8 z9 e9 => ?_⟩⟩
    rw [ed, ee, eb, nI_l (show d < 2 ^ 31 by omega), nI_l (show e < 2 ^ 31 by omega), nI_l (show b < 2 ^ 31 by omega), lN_mul, lN_add, lN_add] at e6
    have e7' : z7 = nI ((c + (d * e + b)) % 65536) := by
      rw [e7, e6]
      have := pk_lRem (a := c + (d * e + b)) (b := 65536) (by omega) (by decide) (by decide)
      rw [show (65536 : Int64) = lN 65536 from rfl, this, lN_i]
    have e8' : z8 = lN ((c + (d * e + b)) / 65536) := by
      rw [e8, e6, show (65536 : Int64) = lN 65536 from rfl]
      exact pk_lDiv (by omega) (by decide) (by decide)
    rw [e9, nI_1, e8', e7']
    have hz6 : (c + (d * e + b)) / 65536 < 65536 := by omega
    refine ih (j + 1) _ _ (by omega) hz6 (pn_d_upd hg (Nat.mod_lt _ (by decide))) ?_ (fun q h3 h4 => ?_)
    · have hu := pn_v_upd (f := g) (j := i + j) (nI ((c + (d * e + b)) % 65536)) (k + l) (by omega)
      rw [cb, nI_clamp (show (c + (d * e + b)) % 65536 < 2 ^ 31 by omega)] at hu
      have hp : 65536 ^ (i + (j + 1)) = 65536 ^ (i + j) * 65536 := by rw [← Nat.add_assoc, Nat.pow_succ]
      have hf : pn_v f2 (j + 1) = pn_v f2 j + e * 65536 ^ j := by
        show pn_v f2 j + (f2 j).toNatClampNeg * 65536 ^ j = _
        rw [ce]
      have hq : d * 65536 ^ i * (e * 65536 ^ j) = d * e * 65536 ^ (i + j) := by
        rw [Nat.pow_add, Nat.mul_assoc, Nat.mul_assoc, ← Nat.mul_assoc (65536 ^ i) e, Nat.mul_comm (65536 ^ i) e, Nat.mul_assoc e]
      have hs : (c + (d * e + b)) % 65536 * 65536 ^ (i + j) + (c + (d * e + b)) / 65536 * (65536 ^ (i + j) * 65536) = c * 65536 ^ (i + j) + (d * e * 65536 ^ (i + j) + b * 65536 ^ (i + j)) := by
        rw [Nat.mul_comm (65536 ^ (i + j)) 65536, ← Nat.mul_assoc, ← Nat.add_mul, ← Nat.add_mul, ← Nat.add_mul]
        congr 1
        omega
      rw [hp, hf, Nat.mul_add, hq]
      omega
    · unfold upd
      rw [if_neg (by omega)]
      exact hz q (by omega) h4
/-- row after row -/
theorem pn_prO {post : Int32 → Int32 → (Nat → Int32) → Int32 → Int32 → (Nat → Int32) → Int32 → Int32 → (Nat → Int32) → Prop} {m0 m1 m2 : Int32} {f1 f2 : Nat → Int32} {k l : Nat} (hkl : k + l ≤ 160) (h1 : pn_d f1 k) (h2 : pn_d f2 l)
    (h : ∀ (k' : Nat) (g : Nat → Int32), k' ≤ k + l → pn_d g k' → (k' = 0 ∨ ¬ g (k' - 1) = 0) → pn_v g k' = pn_v f1 k * pn_v f2 l → post (nI k') (if k' = 0 then 0 else if m1 = m2 then 0 else 1) g (nI k) m1 f1 (nI l) m2 f2) :
    ∀ (r i : Nat) (g : Nat → Int32), i + r = k → pn_d g (k + l) → pn_v g (k + l) = pn_v f1 i * pn_v f2 l → (∀ q, i + l ≤ q → q < k + l → g q = 0) → npr_L38 post (r + 1) (nI i) (nI (k + l)) m0 g (nI k) m1 f1 (nI l) m2 f2 := by
  intro r
  induction r with
  | zero =>
    intro i g hi hg hv hz
    have hik : i = k := by omega
    subst hik
    have fin : ∀ y : Int32, (y = 0 ∨ y = 1) → y = (if m1 = m2 then 0 else 1) → npr_L160 post (nI i) y (nI (i + l)) m0 g (nI i) m1 f1 (nI l) m2 f2 := by
      intro y hy ey
      unfold npr_L160 nt_wp
      refine ⟨pn_bool hy, i + l + 1, pn_trim hy (i + l) (by omega) (fun k' q1 q2 q3 => ?_)⟩
      have e : i + l = k' + (i + l - k') := by omega
      have hvv : pn_v g k' = pn_v f1 i * pn_v f2 l := by
        rw [← hv, e, pn_v_trim (i + l - k') (fun j q4 q5 => q3 j q4 (by omega))]
      have := h k' g q1 (pn_dm hg q1) q2 hvv
      rw [ey]
      exact this
    unfold npr_L38
    refine ⟨fun _ => ⟨fun e => fin 0 (Or.inl rfl) (by rw [if_pos e]), fun e => fin 1 (Or.inr rfl) (by rw [if_neg e])⟩, fun q => absurd (nI_le (Nat.le_refl i) (by omega)) q⟩
  | succ r ih =>
    intro i g hi hg hv hz
    unfold npr_L38
    refine ⟨fun q => absurd q (nI_ge (by omega) (by omega)), fun _ => ⟨l + 1, ?_⟩⟩
    obtain ⟨d, hd, ed, cd⟩ := pn_dn h1 (show i < k by omega)
    have := pn_prI (K38 := npr_L38 post (r + 1)) (post := post) (m0 := m0) (m1 := m1) (m2 := m2) (V := pn_v f1 i * pn_v f2 l) hkl (show i < k by omega) hd ed h2 (fun g' q1 q2 q3 => ih (i + 1) g' (by omega) q1 ?_ q3) l 0 g 0 (by omega) (by decide) hg (by rw [Nat.zero_mul, Nat.add_zero, hv]; show _ = _ + _ * 0; rw [Nat.mul_zero, Nat.add_zero]) hz
    · rw [nI_0] at this
      exact this
    · rw [q2]
      show _ = (pn_v f1 i + (f1 i).toNatClampNeg * 65536 ^ i) * _
      rw [cd, Nat.add_mul]
/-- all places 0 at first -/
theorem pn_prZ {post : Int32 → Int32 → (Nat → Int32) → Int32 → Int32 → (Nat → Int32) → Int32 → Int32 → (Nat → Int32) → Prop} {m0 m1 m2 n1 n2 : Int32} {f1 f2 : Nat → Int32} {n : Nat} (hn : n ≤ 160) (h : ∀ g : Nat → Int32, (∀ j, j < n → g j = 0) → ∃ t, npr_L38 post t 0 (nI n) m0 g n1 m1 f1 n2 m2 f2) : ∀ (r j : Nat) (g : Nat → Int32), j + r = n → (∀ i, i < j → g i = 0) → npr_L15 post (r + 1) (nI j) (nI n) m0 g n1 m1 f1 n2 m2 f2 := by
  intro r
  induction r with
  | zero =>
    intro j g hj hg
    unfold npr_L15
    exact ⟨fun _ => h g (fun i hi => hg i (by omega)), fun q => absurd (nI_le (show n ≤ j by omega) (by omega)) q⟩
  | succ r ih =>
    intro j g hj hg
    unfold npr_L15
    refine ⟨fun q => absurd q (nI_ge (by omega) (by omega)), fun _ => ?_⟩
    rw [nI_clamp (show j < 2 ^ 31 by omega)]
    refine ⟨vp_in_nI (by omega) (by decide), fun z e => ?_⟩
    rw [e, nI_1]
    refine ih (j + 1) _ (by omega) (fun i hi => ?_)
    unfold upd
    by_cases hij : i = j
    · rw [if_pos hij]
    · rw [if_neg hij]; exact hg i (by omega)
/-- product: of at most 160 digits together -/
theorem pn_product {post : Int32 → Int32 → (Nat → Int32) → Int32 → Int32 → (Nat → Int32) → Int32 → Int32 → (Nat → Int32) → Prop} {n0 m0 m1 m2 : Int32} {f0 f1 f2 : Nat → Int32} {k l : Nat} (hkl : k + l ≤ 160) (h1 : pn_d f1 k) (h2 : pn_d f2 l)
    (h : ∀ (k' : Nat) (g : Nat → Int32), k' ≤ k + l → pn_d g k' → (k' = 0 ∨ ¬ g (k' - 1) = 0) → pn_v g k' = pn_v f1 k * pn_v f2 l → post (nI k') (if k' = 0 then 0 else if m1 = m2 then 0 else 1) g (nI k) m1 f1 (nI l) m2 f2) : npr_wp post n0 m0 f0 (nI k) m1 f1 (nI l) m2 f2 := by
  unfold npr_wp
  intro z e
  rw [e, nI_add]
  refine ⟨k + l + 1, ?_⟩
  have := pn_prZ (post := post) (m0 := m0) (m1 := m1) (m2 := m2) (n1 := nI k) (n2 := nI l) (f1 := f1) (f2 := f2) (n := k + l) hkl (fun g hg => ⟨k + 1, ?_⟩) (k + l) 0 f0 (by omega) (fun i hi => by omega)
  · rw [nI_0] at this
    exact this
  · have q := pn_prO (m0 := m0) (m1 := m1) (m2 := m2) hkl h1 h2 h k 0 g (by omega) (fun j hj => ⟨0, by decide, by rw [hg j hj, nI_0]⟩) (by rw [pn_v_zero _ hg]; show 0 = 0 * _; rw [Nat.zero_mul]) (fun q _ q2 => hg q q2)
    rw [nI_0] at q
    exact q

