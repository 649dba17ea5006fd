/-! PURE, the reference's matrix: isZero, inverse, swap, take -/
/-- the numbers are in order -/
def r_V (nv : Nat → px_NV) : Prop := ∀ c, c < 156 → ∃ z, pn_N (nv c) z
/-- the matrix M of R rows and n columns, over Q (p = 0) or modulo p -/
def r_X (p n R : Nat) (gs : Nat → Int32) (nv : Nat → px_NV) (M : Nat → Nat → Int) : Prop := r_V nv ∧ ∀ i, i < R → ∀ j, j < n → if p = 0 then pn_N (nv (12 * i + j)) (M i j) else gs (12 * i + j) = nI (M i j).toNat ∧ 0 ≤ M i j ∧ M i j < p
section RMA
variable {nv : Nat → px_NV} {iv gs : Nat → Int32} {p n R i k j : Nat} {M : Nat → Nat → Int}
theorem r_XQ (h : r_X 0 n R gs nv M) (hi : i < R) (hj : j < n) : pn_N (nv (12 * i + j)) (M i j) := by
  have := h.2 i hi j hj
  rw [if_pos rfl] at this; exact this
theorem r_XP (h : r_X p n R gs nv M) (hp : p ≠ 0) (hi : i < R) (hj : j < n) : gs (12 * i + j) = nI (M i j).toNat ∧ 0 ≤ M i j ∧ M i j < p := by
  have := h.2 i hi j hj
  rw [if_neg hp] at this; exact this
theorem b_ix12 {i j : Nat} : (12 : Int32) * nI i + nI j = nI (12 * i + j) := by
  rw [show (12 : Int32) = nI 12 from rfl, pk_mul, nI_add]
theorem r_isZero {post : Int32 → (Nat → Int32) → (Nat → Int32) → (Nat → px_NV) → Prop} (hX : r_X p n R gs nv M) (hp : p < 256) (hiv : iv 12 = nI p) (hR : R ≤ 13) (hn : n ≤ 12) (hi : i < R) (hj : j < n) (h : post (if M i j = 0 then 1 else 0) iv gs nv) : w50_wp post (nI i) (nI j) iv gs nv := by
  unfold w50_wp w50_L46
  rw [hiv]
  refine ⟨fun w => ?_, fun w => ?_⟩
  · have hp0 : p ≠ 0 := fun q => w (by rw [q]; rfl)
    obtain ⟨h1, h2, h3⟩ := r_XP hX hp0 hi hj
    rw [b_ix12, nI_clamp (by omega), h1]
    refine ⟨b_in (by omega) (by omega), fun w => ⟨rfl, ?_⟩, fun w => ⟨rfl, ?_⟩⟩
    · rw [if_neg (fun q => w (by rw [q]; rfl))] at h; exact h
    · rw [if_pos (Classical.byContradiction (fun q => nI_ne0 (by omega) (by omega) w))] at h; exact h
  · have hp0 : p = 0 := Classical.byContradiction (fun q => nI_ne0 (by omega) (by omega) w)
    subst hp0
    have hN := r_XQ hX hi hj
    refine r_at (by omega) (by omega) ⟨by omega, fun w => ⟨rfl, ?_⟩, fun w => ⟨rfl, ?_⟩⟩
    · rw [if_neg (fun q => w ((pn_N0 hN).2.2 q))] at h; exact h
    · rw [if_pos ((pn_N0 hN).2.1 w)] at h; exact h
theorem r_inverse {post : Int32 → (Nat → Int32) → Prop} {v : Nat} (hp : 1 < p) (hp2 : p < 256) (hv : v < p) (hiv : iv 12 = nI p) (hex : ∃ b, b < p ∧ v * b % p = 1) (h : post (nI (x_inv p v)) iv) : w52_wp post (nI v) iv := by
  obtain ⟨b, hb1, hb2⟩ := pk_least (fun b => b < p ∧ v * b % p = 1) hex
  have hb0 : b ≠ 0 := fun q => by
    have := hb1.2
    rw [q, Nat.mul_zero, Nat.zero_mod] at this; omega
  have e : x_inv p v = b := x_inv1 hb1.1 hb1.2 (fun d _ h2 q => hb2 d h2 ⟨by omega, q⟩)
  rw [e] at h
  have main : ∀ (u x : Nat), x + u = b → 1 ≤ x → w52_L2 post (u + 1) (nI v) (nI x) iv := by
    intro u
    induction u with
    | zero =>
      intro x hx _
      have : x = b := by omega
      subst this
      have hl : x * v < 256 * 256 := Nat.mul_lt_mul_of_lt_of_lt (by omega) (by omega)
      refine ⟨by rw [hiv]; exact nI_ne0 (by omega) (by omega), fun _ => h, fun w => absurd ?_ w⟩
      rw [hiv, pk_mul, pk_rem (by omega) (by omega) (by omega), Nat.mul_comm, hb1.2]; rfl
    | succ u ih =>
      intro x hx hx1
      have hl : x * v < 256 * 256 := Nat.mul_lt_mul_of_lt_of_lt (by omega) (by omega)
      refine ⟨by rw [hiv]; exact nI_ne0 (by omega) (by omega), fun w => ?_, fun _ z ez => ?_⟩
      · rw [hiv, pk_mul, pk_rem (by omega) (by omega) (by omega), Nat.mul_comm] at w
        have hm := Nat.mod_lt (v * x) (show 0 < p by omega)
        exact absurd ⟨by omega, (nI_eq (by omega) (by decide)).1 (show nI (v * x % p) = nI 1 from w)⟩ (hb2 x (by omega))
      · rw [ez, nI_1]; exact ih (x + 1) (by omega) (by omega)
  exact ⟨_, main (b - 1) 1 (by omega) (by omega)⟩
/-- two rows changed for one another, in the first m columns -/
def x_swc (i k m c : Nat) : Nat := if c / 12 = i ∧ c % 12 < m then 12 * k + c % 12 else if c / 12 = k ∧ c % 12 < m then 12 * i + c % 12 else c
theorem r_swap {post : (Nat → Int32) → (Nat → Int32) → (Nat → px_NV) → Prop} {Z : Nat → Int} (hZ : ∀ c, c < 156 → pn_N (nv c) (Z c)) (hiv : iv 11 = nI n) (hn : n ≤ 12) (hi : i < 13) (hk : k < 13) (hik : i ≠ k) (h : ∀ gs' nv', (∀ c, c < 156 → gs' c = gs (x_swc i k n c)) → (∀ c, c < 156 → pn_N (nv' c) (Z (x_swc i k n c))) → post iv gs' nv') : w51_wp post (nI i) (nI k) iv gs nv := by
  have main : ∀ (u j : Nat) (gs1 : Nat → Int32) (nv1 : Nat → px_NV), j + u = n → (∀ c, c < 156 → gs1 c = gs (x_swc i k j c)) → (∀ c, c < 156 → pn_N (nv1 c) (Z (x_swc i k j c))) → w51_L2 post (u + 1) (nI i) (nI k) (nI j) iv gs1 nv1 := by
    intro u
    induction u with
    | zero =>
      intro j gs1 nv1 hj h1 h2
      have : j = n := by omega
      subst this
      exact ⟨fun _ => h gs1 nv1 h1 h2, fun w => absurd (by rw [hiv]; exact nI_le (Nat.le_refl j) (by omega)) w⟩
    | succ u ih =>
      intro j gs1 nv1 hj h1 h2
      have si : x_swc i k j (12 * i + j) = 12 * i + j := by
        unfold x_swc; rw [if_neg (by omega), if_neg (by omega)]
      have sk : x_swc i k j (12 * k + j) = 12 * k + j := by
        unfold x_swc; rw [if_neg (by omega), if_neg (by omega)]
      have so : ∀ c, c < 156 → c ≠ 12 * i + j → c ≠ 12 * k + j → x_swc i k (j + 1) c = x_swc i k j c := by
        intro c hc q1 q2
        have a1 : (c / 12 = i ∧ c % 12 < j + 1) ↔ (c / 12 = i ∧ c % 12 < j) := by omega
        have a2 : (c / 12 = k ∧ c % 12 < j + 1) ↔ (c / 12 = k ∧ c % 12 < j) := by omega
        unfold x_swc
        simp only [a1, a2]
      have ti : x_swc i k (j + 1) (12 * i + j) = 12 * k + j := by
        unfold x_swc; rw [if_pos (by omega)]; omega
      have tk : x_swc i k (j + 1) (12 * k + j) = 12 * i + j := by
        unfold x_swc; rw [if_neg (by omega), if_pos (by omega)]; omega
      have zi := h2 (12 * i + j) (by omega)
      have zk := h2 (12 * k + j) (by omega)
      rw [si] at zi
      rw [sk] at zk
      have gi := h1 (12 * i + j) (by omega)
      have gk := h1 (12 * k + j) (by omega)
      rw [si] at gi
      rw [sk] at gk
      unfold w51_L2
      refine ⟨fun w => absurd w (by rw [hiv]; exact nI_ge (by omega) (by omega)), fun _ => ⟨fun w => absurd ((nI_eq (by omega) (by omega)).1 w) hik, fun _ => r_at hi (by omega) ?_⟩⟩
      refine pn_cpP (by decide) (by omega) (by omega) zi (fun nv2 k2 r2 => r_at hi (by omega) (r_at hk (by omega) ?_))
      refine pn_cpP (by omega) (by omega) (by omega) (by rw [k2 _ (by omega)]; exact zk) (fun nv3 k3 r3 => r_at hk (by omega) ?_)
      refine pn_cpP (by omega) (by decide) (by omega) (by rw [k3 _ (by omega)]; exact r2) (fun nv4 k4 r4 => ?_)
      rw [b_ix12, b_ix12, nI_clamp (show 12 * i + j < 2 ^ 31 by omega), nI_clamp (show 12 * k + j < 2 ^ 31 by omega)]
      refine ⟨b_in (by omega) (by omega), fun z33 e33 => ⟨b_in (by omega) (by omega), fun z34 e34 => ⟨b_in (by omega) (by omega), b_in (by omega) (by omega), fun z35 e35 => ?_⟩⟩⟩
      rw [e35, nI_1]
      refine ih (j + 1) _ nv4 (by omega) (fun c hc => ?_) (fun c hc => ?_)
      · by_cases q2 : c = 12 * k + j
        · subst q2; rw [pk_us, tk, e33]; exact gi
        · rw [pk_un q2]
          by_cases q1 : c = 12 * i + j
          · subst q1; rw [pk_us, ti, e34]; exact gk
          · rw [pk_un q1, so c hc q1 q2]; exact h1 c hc
      · by_cases q2 : c = 12 * k + j
        · subst q2; rw [tk]; exact r4
        · rw [k4 c q2]
          by_cases q1 : c = 12 * i + j
          · subst q1; rw [ti]; exact r3
          · rw [k3 c q1, k2 c (by omega), so c hc q1 q2]; exact h2 c hc
  have s0 : ∀ c, x_swc i k 0 c = c := fun c => by
    unfold x_swc; rw [if_neg (fun z => Nat.not_lt_zero _ z.2), if_neg (fun z => Nat.not_lt_zero _ z.2)]
  exact ⟨n + 1, main n 0 gs nv (by omega) (fun c _ => by rw [s0]) (fun c hc => by rw [s0]; exact hZ c hc)⟩
/-- a row taken from a row -/
def x_tk (p n : Nat) (a b : Nat → Int) (c : Nat) : Nat → Int := if p = 0 then x_sho n (fun j => a j * b c - b j * a c) else fun j => (a j - a c * x_inv p (b c).toNat * b j) % (p : Int)
def x_setr (M : Nat → Nat → Int) (i : Nat) (v : Nat → Int) (i' : Nat) : Nat → Int := if i' = i then v else M i'
theorem x_emodn {a p : Nat} : ((a % p : Nat) : Int) = (a : Int) % (p : Int) := Int.natCast_emod a p
theorem r_take {post : (Nat → Int32) → (Nat → Int32) → (Nat → px_NV) → Prop} {c : Nat} (hX : r_X p n R gs nv M) (hp : p = 0 ∨ (1 < p ∧ p < 256)) (hiv : iv 12 = nI p) (hiv1 : iv 11 = nI n) (hR : R ≤ 13) (hn : n ≤ 12) (hi : i < R) (hk : k < R) (hik : i ≠ k) (hc : c < n) (hb : p = 0 → (∀ j, j < n → (M i j).natAbs < 65536 ^ 79) ∧ (∀ j, j < n → (M k j).natAbs < 65536 ^ 79)) (hex : p ≠ 0 → ∃ b, b < p ∧ (M k c).toNat * b % p = 1) (h : ∀ gs' nv', r_X p n R gs' nv' (x_setr M i (x_tk p n (M i) (M k) c)) → post iv gs' nv') : w53_wp post (nI i) (nI k) (nI c) iv gs nv := by
  unfold w53_wp
  rw [hiv]
  refine ⟨fun w => ?_, fun w => ?_⟩
  · have hp0 : p = 0 := Classical.byContradiction (fun q => nI_nle (by omega) (by omega) w)
    subst hp0
    obtain ⟨hb1, hb2⟩ := hb rfl
    have hbm : ∀ x y : Int, x.natAbs < 65536 ^ 79 → y.natAbs < 65536 ^ 79 → (x * y).natAbs < 65536 ^ 158 := by
      intro x y hx hy
      rw [Int.natAbs_mul, show (65536 : Nat) ^ 158 = 65536 ^ 79 * 65536 ^ 79 by rw [← Nat.pow_add]]
      exact Nat.mul_lt_mul_of_lt_of_lt hx hy
    refine r_at (by omega) (by omega) ?_
    refine pn_cpP (by decide) (by omega) (by omega) (r_XQ hX hk hc) (fun nv1 k1 r1 => r_at (by omega) (by omega) ?_)
    refine pn_cpP (by decide) (by omega) (by omega) (by rw [k1 _ (by omega)]; exact r_XQ hX hi hc) (fun nv2 k2 r2 => ⟨n + 1, ?_⟩)
    have r1' : pn_N (nv2 197) (M k c) := by rw [k2 197 (by decide)]; exact r1
    have main : ∀ (u j : Nat) (nv3 : Nat → px_NV), j + u = n → (∀ d, d < 156 → (∀ j, j < n → d ≠ 12 * i + j) → nv3 d = nv d) → pn_N (nv3 197) (M k c) → pn_N (nv3 198) (M i c) → (∀ j', j' < j → pn_N (nv3 (12 * i + j')) (M i j' * M k c - M k j' * M i c)) → (∀ j', j ≤ j' → j' < n → pn_N (nv3 (12 * i + j')) (M i j')) → w53_L153 post (u + 1) (nI i) (nI k) (nI c) (nI j) iv gs nv3 := by
      intro u
      induction u with
      | zero =>
        intro j nv3 hj c1 c2 c3 c4 c5
        have : j = n := by omega
        subst this
        refine ⟨fun _ => ?_, fun w => absurd (by rw [hiv1]; exact nI_le (Nat.le_refl j) (by omega)) w⟩
        refine r_shorten (v := fun j => M i j * M k c - M k j * M i c) (by omega) hn hiv1 c4 (fun j' hj' => ?_) (fun nv4 d1 d2 d3 d4 => h gs nv4 ⟨fun d hd => ?_, fun i' hi' j' hj' => ?_⟩)
        · have e1 := hbm _ _ (hb1 j' hj') (hb2 c hc)
          have e2 := hbm _ _ (hb2 j' hj') (hb1 c hc)
          have e3 : (65536 : Nat) ^ 159 = 65536 * 65536 ^ 158 := by rw [Nat.pow_succ, Nat.mul_comm]
          show (M i j' * M k c - M k j' * M i c).natAbs < _
          generalize (65536 : Nat) ^ 158 = P at *
          omega
        · by_cases q : ∃ j', j' < j ∧ d = 12 * i + j'
          · obtain ⟨j', q1, q2⟩ := q
            rw [q2]; exact ⟨_, d4 j' q1⟩
          · rw [d1 d (by omega) (fun j' w1 w2 => q ⟨j', w1, w2⟩), c1 d hd (fun j' w1 w2 => q ⟨j', w1, w2⟩)]
            exact hX.1 d hd
        · rw [if_pos rfl]
          unfold x_setr x_tk
          by_cases q : i' = i
          · subst q
            rw [if_pos rfl, if_pos rfl]; exact d4 j' hj'
          · rw [if_neg q, d1 _ (by omega) (fun j'' w1 w2 => by omega), c1 _ (by omega) (fun j'' w1 w2 => by omega)]
            exact r_XQ hX hi' hj'
      | succ u ih =>
        intro j nv3 hj c1 c2 c3 c4 c5
        have hkj : pn_N (nv3 (12 * k + j)) (M k j) := by
          rw [c1 _ (by omega) (fun j'' w1 w2 => by omega)]; exact r_XQ hX hk (by omega)
        refine ⟨fun w => absurd w (by rw [hiv1]; exact nI_ge (by omega) (by omega)), fun _ => r_at (by omega) (by omega) ?_⟩
        refine pn_prP (c := 79) (d := 79) (by decide) (by omega) (by decide) (by omega) (by decide) (by omega) (c5 j (Nat.le_refl j) (by omega)) c2 (hb1 j (by omega)) (hb2 c hc) (by decide) (fun nv4 k4 r4 => r_at (by omega) (by omega) ?_)
        refine pn_prP (c := 79) (d := 79) (by decide) (by omega) (by decide) (by omega) (by decide) (by omega) (by rw [k4 _ (by omega)]; exact hkj) (by rw [k4 198 (by decide)]; exact c3) (hb2 j (by omega)) (hb1 c hc) (by decide) (fun nv5 k5 r5 => r_at (by omega) (by omega) ?_)
        have e1 := hbm _ _ (hb1 j (by omega)) (hb2 c hc)
        have e2 := hbm _ _ (hb2 j (by omega)) (hb1 c hc)
        have e3 : (65536 : Nat) ^ 159 = 65536 * 65536 ^ 158 := by rw [Nat.pow_succ, Nat.mul_comm]
        refine ⟨by omega, pn_less (x := M i j * M k c) (y := M k j * M i c) (by omega) (by decide) (by decide) (by omega) (by omega) (by decide) (by rw [k5 192 (by decide)]; exact r4) r5 (by generalize (65536 : Nat) ^ 158 = P at *; omega) (by generalize (65536 : Nat) ^ 158 = P at *; omega) (fun nv6 k6 r6 z ez => ?_)⟩
        rw [ez, nI_1]
        refine ih (j + 1) nv6 (by omega) (fun d d1 d2 => ?_) ?_ ?_ (fun j' hj' => ?_) (fun j' h1 h2 => ?_)
        · rw [k6 d (d2 j (by omega)), k5 d (by omega), k4 d (by omega)]; exact c1 d d1 d2
        · rw [k6 197 (by omega), k5 197 (by decide), k4 197 (by decide)]; exact c2
        · rw [k6 198 (by omega), k5 198 (by decide), k4 198 (by decide)]; exact c3
        · by_cases q : j' = j
          · subst q; exact r6
          · rw [k6 _ (by omega), k5 _ (by omega), k4 _ (by omega)]; exact c4 j' (by omega)
        · rw [k6 _ (by omega), k5 _ (by omega), k4 _ (by omega)]; exact c5 j' (by omega) h2
    exact main n 0 nv2 (by omega) (fun d d1 d2 => by rw [k2 d (by omega), k1 d (by omega)]) r1' r2 (fun j' hj' => absurd hj' (Nat.not_lt_zero j')) (fun j' _ hj' => by rw [k2 _ (by omega), k1 _ (by omega)]; exact r_XQ hX hi hj')
  · have hp0 : p ≠ 0 := fun q => w (by rw [q]; exact Int32.le_refl 0)
    obtain ⟨hp1, hp2⟩ := hp.resolve_left hp0
    obtain ⟨g1, g2, g3⟩ := r_XP hX hp0 hi hc
    obtain ⟨g4, g5, g6⟩ := r_XP hX hp0 hk hc
    rw [b_ix12, b_ix12, nI_clamp (show 12 * i + c < 2 ^ 31 by omega), nI_clamp (show 12 * k + c < 2 ^ 31 by omega), g1, g4]
    refine ⟨b_in (by omega) (by omega), b_in (by omega) (by omega), r_inverse hp1 hp2 (by omega) hiv (hex hp0) ⟨by rw [hiv]; exact nI_ne0 (by omega) (by omega), fun z59 e59 => ⟨n + 1, ?_⟩⟩⟩
    have hil := x_invl (p := p) (b := (M k c).toNat) (by omega)
    have e59 : z59 = nI ((M i c).toNat * x_inv p (M k c).toNat % p) := by
      have hl : (M i c).toNat * x_inv p (M k c).toNat < 256 * 256 := Nat.mul_lt_mul_of_lt_of_lt (by omega) (by omega)
      rw [e59, hiv, pk_mul, pk_rem (by omega) (by omega) (by omega)]
    have hbl : (M i c).toNat * x_inv p (M k c).toNat % p < p := Nat.mod_lt _ (by omega)
    rw [e59]
    generalize hby : (M i c).toNat * x_inv p (M k c).toNat % p = by_ at *
    have hval : ∀ j, j < n → 0 ≤ x_tk p n (M i) (M k) c j ∧ x_tk p n (M i) (M k) c j < p := by
      intro j hj
      unfold x_tk
      rw [if_neg hp0]
      exact ⟨Int.emod_nonneg _ (by omega), Int.emod_lt_of_pos _ (by omega)⟩
    have hbyI : (by_ : Int) = (M i c * x_inv p (M k c).toNat) % (p : Int) := by
      rw [← hby, x_emodn, Int.natCast_mul, Int.toNat_of_nonneg g2]
    have hstep : ∀ j, j < n → ∀ d, d = (M i j).toNat → ∀ e, e = by_ * (M k j).toNat % p → x_tk p n (M i) (M k) c j = if e ≤ d then ((d - e : Nat) : Int) else ((d + p - e : Nat) : Int) := by
      intro j hj d hd e he
      obtain ⟨a1, a2, a3⟩ := r_XP hX hp0 hi hj
      obtain ⟨b1, b2, b3⟩ := r_XP hX hp0 hk hj
      have hel : e < p := by rw [he]; exact Nat.mod_lt _ (by omega)
      have hdI : (d : Int) = M i j := by rw [hd, Int.toNat_of_nonneg a2]
      have heI : (e : Int) = ((M i c * x_inv p (M k c).toNat) % (p : Int) * M k j) % (p : Int) := by
        rw [he, x_emodn, Int.natCast_mul, hbyI, Int.toNat_of_nonneg b2]
      have e0 : x_tk p n (M i) (M k) c j = ((d : Int) - e) % (p : Int) := by
        unfold x_tk
        rw [if_neg hp0, heI, hdI]
        show (M i j - M i c * x_inv p (M k c).toNat * M k j) % (p : Int) = _
        rw [Int.sub_emod, Int.sub_emod (M i j), Int.emod_emod, Int.mul_emod (M i c * x_inv p (M k c).toNat % (p : Int)), Int.emod_emod, ← Int.mul_emod]
      rw [e0]
      split
      · rw [show (d : Int) - e = ((d - e : Nat) : Int) by omega, Int.emod_eq_of_lt (by omega) (by omega)]
      · rw [show (d : Int) - e = ((d + p - e : Nat) : Int) - p by omega, Int.sub_emod_right, Int.emod_eq_of_lt (by omega) (by omega)]
    have main : ∀ (u j : Nat) (gs1 : Nat → Int32), j + u = n → (∀ d, d < 156 → (∀ j, j < n → d ≠ 12 * i + j) → gs1 d = gs d) → (∀ j', j' < j → gs1 (12 * i + j') = nI (x_tk p n (M i) (M k) c j').toNat) → (∀ j', j ≤ j' → j' < n → gs1 (12 * i + j') = gs (12 * i + j')) → w53_L44 post (u + 1) (nI i) (nI k) (nI c) (nI by_) (nI j) iv gs1 nv := by
      intro u
      induction u with
      | zero =>
        intro j gs1 hj c1 c2 c3
        have : j = n := by omega
        subst this
        refine ⟨fun _ => h gs1 nv ⟨hX.1, fun i' hi' j' hj' => ?_⟩, fun w => absurd (by rw [hiv1]; exact nI_le (Nat.le_refl j) (by omega)) w⟩
        rw [if_neg hp0]
        unfold x_setr
        by_cases q : i' = i
        · subst q
          rw [if_pos rfl]; exact ⟨c2 j' hj', hval j' hj'⟩
        · rw [if_neg q, c1 _ (by omega) (fun j'' w1 w2 => by omega)]
          exact r_XP hX hp0 hi' hj'
      | succ u ih =>
        intro j gs1 hj c1 c2 c3
        obtain ⟨a1, a2, a3⟩ := r_XP hX hp0 hi (show j < n by omega)
        obtain ⟨b1, b2, b3⟩ := r_XP hX hp0 hk (show j < n by omega)
        have hne : ∀ j'', j'' < n → 12 * k + j ≠ 12 * i + j'' := fun j'' w1 w2 => by clear hstep hval hex h ih; omega
        have hs := hstep j (by omega) _ rfl _ rfl
        have hml : by_ * (M k j).toNat < 256 * 256 := Nat.mul_lt_mul_of_lt_of_lt (by omega) (by omega)
        have hel : by_ * (M k j).toNat % p < p := Nat.mod_lt _ (by omega)
        refine ⟨fun w => absurd w (by rw [hiv1]; exact nI_ge (by omega) (by omega)), fun _ => ?_⟩
        rw [b_ix12, b_ix12, nI_clamp (show 12 * i + j < 2 ^ 31 by omega), nI_clamp (show 12 * k + j < 2 ^ 31 by omega), c3 j (Nat.le_refl j) (by omega), c1 (12 * k + j) (by omega) hne, a1, b1, hiv, pk_mul, pk_rem (by omega) (by omega) (by omega)]
        refine ⟨b_in (by omega) (by omega), b_in (by omega) (by omega), nI_ne0 (by omega) (by omega), fun z36 e36 => ?_⟩
        have fin : ∀ y0 : Int32, y0 = nI (x_tk p n (M i) (M k) c j).toNat → w53_L116 (w53_L44 post (u + 1)) post (nI i) (nI k) (nI c) (nI by_) (nI j) z36 y0 (nI (12 * i + j)) iv gs1 nv := by
          intro y0 ey
          refine ⟨b_in (by omega) (by omega), fun z35 e35 => ?_⟩
          rw [e35, nI_1, nI_clamp (show 12 * i + j < 2 ^ 31 by omega)]
          refine ih (j + 1) _ (by omega) (fun d d1 d2 => ?_) (fun j' hj' => ?_) (fun j' h1 h2 => ?_)
          · rw [pk_un (d2 j (by omega))]; exact c1 d d1 d2
          · by_cases q : j' = j
            · subst q; rw [pk_us]; exact ey
            · rw [pk_un (by omega)]; exact c2 j' (by omega)
          · rw [pk_un (by omega)]; exact c3 j' (by omega) h2
        by_cases q : by_ * (M k j).toNat % p ≤ (M i j).toNat
        · rw [if_pos q] at hs
          rw [pk_sub q] at e36
          refine ⟨fun _ => fin _ (by rw [e36, hs]; rfl), fun w => absurd (by rw [e36]; exact nI_pos' (by omega)) w⟩
        · rw [if_neg q] at hs
          refine ⟨fun w => absurd w (by rw [e36]; exact Int32.not_le.mpr (pk_sneg (by omega) (by omega))), fun _ => fin _ ?_⟩
          rw [e36, hs, show (((M i j).toNat + p - by_ * (M k j).toNat % p : Nat) : Int).toNat = (M i j).toNat + p - by_ * (M k j).toNat % p from rfl, ← pk_sub (by omega), ← nI_add]
          grind
    exact main n 0 gs (by omega) (fun _ _ _ => rfl) (fun j' hj' => absurd hj' (Nat.not_lt_zero j')) (fun _ _ _ => rfl)
end RMA
