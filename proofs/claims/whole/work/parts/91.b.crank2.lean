/-! PURE, the class: workOutRanks, rankOf -/
theorem b_bn (x : Bool) : (if x = true then (1 : Int32) else 0) = nI (if x = true then 1 else 0) := by cases x <;> rfl
section CRK
variable {a cm np ns : Nat} {pa sa : Nat → Nat} {pp : Nat → px_PR} {ss : Nat → px_SR} {mc ms : Nat} {q_o l_o : Nat} {o_r : Int32} {g_o g_t : Nat → Int32} {mm : Nat → px_MR} {kc ks : Nat} {post : Nat → Nat → Int32 → (Nat → Int32) → (Nat → Int32) → (Nat → px_MR) → Prop} {M : px_MR} {n : Nat} {b : Nat → Bool}
/-- the places below m are new, the others old -/
def c_mix (m : Nat) (f g : Nat → Nat) (h : Nat → Int32) (n : Nat) : Prop := ∀ S, S < 2 ^ n → h S = nI (if S < m then f S else g S)
theorem c_mixu {m n v : Nat} {f g : Nat → Nat} {h : Nat → Int32} (hm : c_mix m f g h n) (hv : v = f m) : c_mix (m + 1) f g (upd h m (nI v)) n := by
  intro S hS
  unfold upd
  by_cases z : S = m
  · rw [if_pos z, if_pos (by omega), z, hv]
  · rw [if_neg z, hm S hS]
    by_cases q : S < m
    · rw [if_pos q, if_pos (by omega)]
    · rw [if_neg q, if_neg (by omega)]
/-- one array of one matroid of the pool -/
abbrev c_at (mm : Nat → px_MR) (a : Nat) (M : px_MR) (k : Nat) (f : Nat → Int32) : Nat → px_MR := va_up mm a (c_set M k f)
theorem c_atu {k : Nat} {f F : Nat → Int32} {mm' : Nat → px_MR} (e : mm' = va_up (c_at mm a M k f) a (((c_at mm a M k f) a).1, ((c_at mm a M k f) a).2.1, ((c_at mm a M k f) a).2.2.1, va_up ((c_at mm a M k f) a).2.2.2.1 k F, ((c_at mm a M k f) a).2.2.2.2)) : mm' = c_at mm a M k F := by
  rw [e, b_upup]
  show va_up mm a (c_set ((c_at mm a M k f) a) k F) = _
  rw [show (c_at mm a M k f) a = c_set M k f from va_up_self _ _ _, c_ss]
theorem c_atg {k : Nat} {f : Nat → Int32} : ((c_at mm a M k f) a).2.2.2.1 k = f := by
  rw [show (c_at mm a M k f) a = c_set M k f from va_up_self _ _ _, c_sg]
theorem c_atl {k j : Nat} {f : Nat → Int32} : ((c_at mm a M k f) a).2.2.1 j = M.2.2.1 j := by
  rw [show (c_at mm a M k f) a = c_set M k f from va_up_self _ _ _]; rfl
theorem c_ati {k j : Nat} {f : Nat → Int32} : ((c_at mm a M k f) a).2.1 j = M.2.1 j := by
  rw [show (c_at mm a M k f) a = c_set M k f from va_up_self _ _ _]; rfl
theorem c_atn {k j : Nat} {f : Nat → Int32} (h : j ≠ k) : ((c_at mm a M k f) a).2.2.2.1 j = M.2.2.2.1 j := by
  rw [show (c_at mm a M k f) a = c_set M k f from va_up_self _ _ _, c_sgn _ _ h]
def c_F (b : Nat → Bool) (k S : Nat) : Nat := if x_dn b k S = true then 1 else 0
theorem c_or01 : ∀ x y : Bool, vp_nar .byte (nI (if x = true then 1 else 0) ||| nI (if y = true then 1 else 0)).toInt8.toInt32 = nI (if (x || y) = true then 1 else 0) := by decide +kernel
/-- pass k of the first loops -/
theorem c_r69 {K59 : Int32 → Int32 → Nat → Nat → Int32 → (Nat → Int32) → (Nat → Int32) → (Nat → px_MR) → Nat → Nat → Prop} {k : Nat} (ha : a < cm) (hk : k < n) (hn : n ≤ 12) (hl : 2 ^ n ≤ M.2.2.1 7)
    (hK : ∀ f, c_mix (2 ^ n) (c_F b (k + 1)) (c_F b (k + 1)) f n → K59 (nI (2 ^ n)) (nI (k + 1)) q_o l_o o_r g_o g_t (c_at mm a M 7 f) kc ks) :
    ∀ (t m : Nat) (f : Nat → Int32), m + t = 2 ^ n → c_mix m (c_F b (k + 1)) (c_F b k) f n → w263_L69 K59 a cm np ns pa sa pp ss mc ms post (t + 1) (nI (2 ^ n)) (nI k) (nI m) q_o l_o o_r g_o g_t (c_at mm a M 7 f) kc ks := by
  have hp := b_p12 hn
  intro t
  induction t with
  | zero =>
    intro m f hm hf
    unfold w263_L69
    refine ⟨fun _ z e => ?_, fun h => absurd (nI_le (show 2 ^ n ≤ m by omega) (by omega)) h⟩
    rw [e, nI_1]
    refine hK f (fun S hS => ?_)
    rw [hf S hS, if_pos (show S < m by omega), if_pos hS]
  | succ t ih =>
    intro m f hm hf
    unfold w263_L69
    refine ⟨fun h => absurd h (nI_ge (by omega) (by omega)), fun _ => ?_⟩
    have hml : m < 2 ^ n := by omega
    have hol : m ||| 2 ^ k < 2 ^ n := Nat.or_lt_two_pow hml (Nat.pow_lt_pow_right (by decide) hk)
    rw [c_atl, c_atg, b_sh (show k < 31 by omega), b_or, nI_clamp (show m < 2 ^ 31 by omega), nI_clamp (show m ||| 2 ^ k < 2 ^ 31 by omega)]
    refine ⟨ha, ha, b_in (by omega) (by omega), ha, ha, b_in (by omega) (by omega), fun z12 e12 => ⟨ha, b_in (by omega) (by omega), fun mm13 e13 z14 e14 => ?_⟩⟩
    have e13' := c_atu e13
    rw [e13', e14, nI_1]
    refine ih (m + 1) _ (by omega) ?_
    have h1 : f m = nI (c_F b k m) := by rw [hf m hml, if_neg (Nat.lt_irrefl m)]
    have h2 : f (m ||| 2 ^ k) = nI (c_F b k (m ||| 2 ^ k)) := by
      rw [hf _ hol]
      by_cases q : m ||| 2 ^ k < m
      · exact absurd q (by have := Nat.left_le_or (m := 2 ^ k) (n := m); omega)
      · rw [if_neg q]
    have h3 : vp_nar .byte z12 = nI (c_F b (k + 1) m) := by
      rw [e12, h1, h2]
      exact c_or01 _ _
    rw [h3]
    exact c_mixu hf rfl
/-- all passes of the first loops -/
theorem c_r59 (ha : a < cm) (hn : n ≤ 12) (hs : M.2.1 13 = nI n) (hl : 2 ^ n ≤ M.2.2.1 7)
    (hK : ∀ f, c_mix (2 ^ n) (c_F b n) (c_F b n) f n → ∃ j, w263_L108 a cm np ns pa sa pp ss mc ms post j (nI (2 ^ n)) 0 q_o l_o o_r g_o g_t (c_at mm a M 7 f) kc ks) :
    ∀ (t k : Nat) (f : Nat → Int32), k + t = n → c_mix (2 ^ n) (c_F b k) (c_F b k) f n → w263_L59 a cm np ns pa sa pp ss mc ms post (t + 1) (nI (2 ^ n)) (nI k) q_o l_o o_r g_o g_t (c_at mm a M 7 f) kc ks := by
  intro t
  induction t with
  | zero =>
    intro k f hk hf
    unfold w263_L59
    rw [c_ati, hs]
    have hkn : k = n := by omega
    subst hkn
    refine ⟨ha, fun _ => hK f hf, fun h => absurd (nI_le (Nat.le_refl k) (by omega)) h⟩
  | succ t ih =>
    intro k f hk hf
    unfold w263_L59
    rw [c_ati, hs]
    refine ⟨ha, fun h => absurd h (nI_ge (by omega) (by omega)), fun _ => ⟨2 ^ n + 1, ?_⟩⟩
    have := c_r69 (K59 := w263_L59 a cm np ns pa sa pp ss mc ms post (t + 1)) (np := np) (ns := ns) (pa := pa) (sa := sa) (pp := pp) (ss := ss) (mc := mc) (ms := ms) (post := post) (q_o := q_o) (l_o := l_o) (o_r := o_r) (g_o := g_o) (g_t := g_t) (mm := mm) (kc := kc) (ks := ks) (b := b) (k := k) (M := M) ha (by omega) hn hl (fun f' h' => ih (k + 1) f' (by omega) h') (2 ^ n) 0 f (by omega) (fun S hS => by rw [hf S hS, if_pos hS, if_neg (Nat.not_lt_zero S)])
    rw [nI_0] at this
    exact this
theorem c_mul01 : ∀ k, k < 13 → vp_nar .byte ((1 : Int32) * nI k).toInt8.toInt32 = nI k ∧ vp_nar .byte ((0 : Int32) * nI k).toInt8.toInt32 = 0 := by decide +kernel
theorem x_nle (S : Nat) : x_n S ≤ 12 := by
  have : ∀ m, x_cn m (fun i => S.testBit i) ≤ m := by
    intro m
    induction m with
    | zero => exact Nat.le_refl 0
    | succ m ih =>
      show x_cn m (fun i => S.testBit i) + _ ≤ m + 1
      split <;> omega
  exact this 12
theorem c_r108 (ha : a < cm) (hn : n ≤ 12) (hl : 2 ^ n ≤ M.2.2.1 7)
    (hK : ∀ f, c_mix (2 ^ n) (x_in b n) (x_in b n) f n → ∃ j, w263_L139 a cm np ns pa sa pp ss mc ms post j (nI (2 ^ n)) 0 q_o l_o o_r g_o g_t (c_at mm a M 7 f) kc ks) :
    ∀ (t m : Nat) (f : Nat → Int32), m + t = 2 ^ n → c_mix m (x_in b n) (c_F b n) f n → w263_L108 a cm np ns pa sa pp ss mc ms post (t + 1) (nI (2 ^ n)) (nI m) q_o l_o o_r g_o g_t (c_at mm a M 7 f) kc ks := by
  have hp := b_p12 hn
  intro t
  induction t with
  | zero =>
    intro m f hm hf
    unfold w263_L108
    refine ⟨fun _ => hK f (fun S hS => by rw [hf S hS, if_pos (show S < m by omega), if_pos hS]), fun h => absurd (nI_le (show 2 ^ n ≤ m by omega) (by omega)) h⟩
  | succ t ih =>
    intro m f hm hf
    unfold w263_L108
    refine ⟨fun h => absurd h (nI_ge (by omega) (by omega)), fun _ => ?_⟩
    rw [c_atl, c_atg, nI_clamp (show m < 2 ^ 31 by omega)]
    refine ⟨ha, ha, ha, b_in (by omega) (by omega), b_bc (show m < 4096 by omega) (fun z8 e8 => ⟨ha, b_in (by omega) (by omega), fun mm9 e9 z10 e10 => ?_⟩)⟩
    have e9' := c_atu e9
    rw [e9', e10, nI_1]
    refine ih (m + 1) _ (by omega) ?_
    have h1 : f m = nI (c_F b n m) := by rw [hf m (by omega), if_neg (Nat.lt_irrefl m)]
    have h3 : vp_nar .byte z8 = nI (x_in b n m) := by
      rw [e8, h1]
      have hc := c_mul01 (x_n m) (by have := x_nle m; omega)
      unfold c_F x_in
      by_cases q : x_dn b n m = true
      · rw [if_pos q, if_pos q]; exact hc.1
      · rw [if_neg q, if_neg q]; exact hc.2
    rw [h3]
    exact c_mixu hf rfl
theorem c_max {P : Int32 → Prop} {x y : Nat} (hx : x < 2 ^ 31) (hy : y < 2 ^ 31) (h : P (nI (max x y))) : w185_wp P (nI x) (nI y) := by
  unfold w185_wp w185_L10
  refine ⟨fun q => ?_, fun q => ?_⟩
  · rw [nI_ltI hx hy] at q
    rw [show max x y = y by omega] at h
    exact h
  · rw [nI_ltI hx hy] at q
    rw [show max x y = x by omega] at h
    exact h
theorem x_mu2b {f : Nat → Nat} {c : Nat} (hf : ∀ S, f S ≤ c) : ∀ (k S : Nat), x_mu2 f k S ≤ c
  | 0, S => hf S
  | k + 1, S => by
    show max (x_mu2 f k S) (x_mu2 f k (x_mi S (2 ^ k))) ≤ c
    have := x_mu2b hf k S
    have := x_mu2b hf k (x_mi S (2 ^ k))
    omega
theorem x_inle (S : Nat) : x_in b n S ≤ 12 := by
  unfold x_in
  have := x_nle S
  split <;> omega
theorem c_r149 {K139 : Int32 → Int32 → Nat → Nat → Int32 → (Nat → Int32) → (Nat → Int32) → (Nat → px_MR) → Nat → Nat → Prop} {k : Nat} (ha : a < cm) (hk : k < n) (hn : n ≤ 12) (hl : 2 ^ n ≤ M.2.2.1 7)
    (hK : ∀ f, c_mix (2 ^ n) (x_mu2 (x_in b n) (k + 1)) (x_mu2 (x_in b n) (k + 1)) f n → K139 (nI (2 ^ n)) (nI (k + 1)) q_o l_o o_r g_o g_t (c_at mm a M 7 f) kc ks) :
    ∀ (t m : Nat) (f : Nat → Int32), m + t = 2 ^ n → c_mix m (x_mu2 (x_in b n) (k + 1)) (x_mu2 (x_in b n) k) f n → w263_L149 K139 a cm np ns pa sa pp ss mc ms post (t + 1) (nI (2 ^ n)) (nI k) (nI m) q_o l_o o_r g_o g_t (c_at mm a M 7 f) kc ks := by
  have hp := b_p12 hn
  intro t
  induction t with
  | zero =>
    intro m f hm hf
    unfold w263_L149
    refine ⟨fun _ z e => ?_, fun h => absurd (nI_le (show 2 ^ n ≤ m by omega) (by omega)) h⟩
    rw [e, nI_1]
    refine hK f (fun S hS => ?_)
    rw [hf S hS, if_pos (show S < m by omega), if_pos hS]
  | succ t ih =>
    intro m f hm hf
    unfold w263_L149
    refine ⟨fun h => absurd h (nI_ge (by omega) (by omega)), fun _ => ?_⟩
    have hml : m < 2 ^ n := by omega
    have hol : x_mi m (2 ^ k) < 2 ^ n := x_milt hml
    have hle : x_mi m (2 ^ k) ≤ m := by
      have h1 : m &&& x_mi m (2 ^ k) = x_mi m (2 ^ k) := Nat.eq_of_testBit_eq (fun i => by
        rw [Nat.testBit_and, x_mib]
        cases m.testBit i <;> rfl)
      rw [← h1]
      exact Nat.and_le_left
    rw [c_atl, c_atg, b_sh (show k < 31 by omega), b_nand (show m < 2 ^ 31 by omega) (Nat.pow_lt_pow_right (by decide) (by omega)), nI_clamp (show m < 2 ^ 31 by omega)]
    show _ ∧ _ ∧ _ ∧ _ ∧ _ ∧ _ ∧ vp_in (nI (x_mi m (2 ^ k))) _ ∧ _
    have h1 : f m = nI (x_mu2 (x_in b n) k m) := by rw [hf m hml, if_neg (Nat.lt_irrefl m)]
    have h2 : f (x_mi m (2 ^ k)) = nI (x_mu2 (x_in b n) k (x_mi m (2 ^ k))) := by
      rw [hf _ hol]
      by_cases q : x_mi m (2 ^ k) < m
      · rw [if_pos q]
        show nI (max (x_mu2 (x_in b n) k (x_mi m (2 ^ k))) (x_mu2 (x_in b n) k (x_mi (x_mi m (2 ^ k)) (2 ^ k)))) = _
        have : x_mi (x_mi m (2 ^ k)) (2 ^ k) = x_mi m (2 ^ k) := Nat.eq_of_testBit_eq (fun i => by rw [x_mib, x_mib]; cases m.testBit i <;> cases (2 ^ k).testBit i <;> rfl)
        rw [this, Nat.max_self]
      · rw [if_neg q]
    refine ⟨ha, ha, ha, b_in (by omega) (by omega), ha, ha, b_in (by omega) (by omega), ?_⟩
    show w185_wp _ (f m) (f (nI (x_mi m (2 ^ k))).toNatClampNeg)
    rw [nI_clamp (show x_mi m (2 ^ k) < 2 ^ 31 by omega), h1, h2]
    have b1 := x_mu2b (f := x_in b n) (c := 12) (fun S => x_inle S) k m
    have b2 := x_mu2b (f := x_in b n) (c := 12) (fun S => x_inle S) k (x_mi m (2 ^ k))
    refine c_max (by omega) (by omega) (fun z3 e3 => ⟨ha, b_in (by omega) (by omega), fun mm4 e4 z5 e5 => ?_⟩)
    have e4' := c_atu e4
    rw [e4', e5, nI_1]
    refine ih (m + 1) _ (by omega) ?_
    have h3 : vp_nar .byte z3 = nI (x_mu2 (x_in b n) (k + 1) m) := by
      rw [e3, b_byte _ (by omega)]; rfl
    rw [h3]
    exact c_mixu hf rfl
/-- a matroid whose ranks are known -/
def c_rd (M : px_MR) (f : Nat → Int32) : px_MR := (M.1, va_up M.2.1 9 1, M.2.2.1, va_up M.2.2.2.1 7 f, M.2.2.2.2)
theorem c_r139 (ha : a < cm) (hn : n ≤ 12) (hs : M.2.1 13 = nI n) (hl : 2 ^ n ≤ M.2.2.1 7)
    (h : ∀ f, c_mix (2 ^ n) (x_mu2 (x_in b n) n) (x_mu2 (x_in b n) n) f n → post q_o l_o o_r g_o g_t (va_up mm a (c_rd M f))) :
    ∀ (t k : Nat) (f : Nat → Int32), k + t = n → c_mix (2 ^ n) (x_mu2 (x_in b n) k) (x_mu2 (x_in b n) k) f n → w263_L139 a cm np ns pa sa pp ss mc ms post (t + 1) (nI (2 ^ n)) (nI k) q_o l_o o_r g_o g_t (c_at mm a M 7 f) kc ks := by
  intro t
  induction t with
  | zero =>
    intro k f hk hf
    unfold w263_L139
    rw [c_ati, hs]
    refine ⟨ha, fun _ => ⟨ha, fun mm6 e6 => ?_⟩, fun h => absurd (nI_le (show n ≤ k by omega) (by omega)) h⟩
    have e : mm6 = va_up mm a (c_rd M f) := by
      rw [e6, b_upup, show (c_at mm a M 7 f) a = c_set M 7 f from va_up_self _ _ _]; rfl
    rw [e]
    have hkn : n = k := by omega
    subst hkn
    exact h f hf
  | succ t ih =>
    intro k f hk hf
    unfold w263_L139
    rw [c_ati, hs]
    refine ⟨ha, fun h => absurd h (nI_ge (by omega) (by omega)), fun _ => ⟨2 ^ n + 1, ?_⟩⟩
    have := c_r149 (K139 := w263_L139 a cm np ns pa sa pp ss mc ms post (t + 1)) (np := np) (ns := ns) (pa := pa) (sa := sa) (pp := pp) (ss := ss) (mc := mc) (ms := ms) (post := post) (q_o := q_o) (l_o := l_o) (o_r := o_r) (g_o := g_o) (g_t := g_t) (mm := mm) (kc := kc) (ks := ks) (b := b) (k := k) (M := M) ha (by omega) hn hl (fun f' h' => ih (k + 1) f' (by omega) h') (2 ^ n) 0 f (by omega) (fun S hS => by rw [hf S hS, if_pos hS, if_neg (Nat.not_lt_zero S)])
    rw [nI_0] at this
    exact this
theorem c_nar01 : vp_nar .byte (1 : Int32).toInt8.toInt32 = nI 1 ∧ vp_nar .byte (0 : Int32).toInt8.toInt32 = nI 0 := by decide +kernel
theorem c_r25 (ha : a < cm) (hn : n ≤ 12) (hl : 2 ^ n ≤ M.2.2.1 7) (hl6 : 2 ^ n ≤ M.2.2.1 6) (hb : ∀ S, S < 2 ^ n → (b S = true ↔ ¬ M.2.2.2.1 6 S = 0))
    (hK : ∀ f, c_mix (2 ^ n) (c_F b 0) (c_F b 0) f n → ∃ j, w263_L59 a cm np ns pa sa pp ss mc ms post j (nI (2 ^ n)) 0 q_o l_o o_r g_o g_t (c_at mm a M 7 f) kc ks) :
    ∀ (t m : Nat) (f : Nat → Int32), m + t = 2 ^ n → (∀ S, S < m → f S = nI (c_F b 0 S)) → w263_L25 a cm np ns pa sa pp ss mc ms post (t + 1) (nI (2 ^ n)) (nI m) q_o l_o o_r g_o g_t (c_at mm a M 7 f) kc ks := by
  have hp := b_p12 hn
  intro t
  induction t with
  | zero =>
    intro m f hm hf
    unfold w263_L25
    refine ⟨fun _ => hK f (fun S hS => by rw [hf S (by omega), if_pos hS]), fun h => absurd (nI_le (show 2 ^ n ≤ m by omega) (by omega)) h⟩
  | succ t ih =>
    intro m f hm hf
    unfold w263_L25 w263_L49
    refine ⟨fun h => absurd h (nI_ge (by omega) (by omega)), fun _ => ?_⟩
    rw [c_atl, c_atl, c_atn (by decide), nI_clamp (show m < 2 ^ 31 by omega)]
    have fin : ∀ (y : Int32), y = (if b m = true then 1 else 0) → ∀ (z15 : Int32), z15 = y.toInt8.toInt32 → a < cm ∧ (vp_in (nI m) (M.2.2.1 7) ∧ (∀ mm16 : Nat → px_MR, mm16 = va_up (c_at mm a M 7 f) a (((c_at mm a M 7 f) a).1, ((c_at mm a M 7 f) a).2.1, ((c_at mm a M 7 f) a).2.2.1, va_up ((c_at mm a M 7 f) a).2.2.2.1 7 (upd (((c_at mm a M 7 f) a).2.2.2.1 7) m (vp_nar .byte z15)), ((c_at mm a M 7 f) a).2.2.2.2) → (∀ z17 : Int32, z17 = (nI m) + 1 → w263_L25 a cm np ns pa sa pp ss mc ms post (t + 1) (nI (2 ^ n)) z17 q_o l_o o_r g_o g_t mm16 kc ks))) := by
      intro y ey z15 e15
      refine ⟨ha, b_in (by omega) (by omega), fun mm16 e16 z17 e17 => ?_⟩
      have e16' := c_atu e16
      rw [e16', e17, nI_1]
      refine ih (m + 1) _ (by omega) (fun S hS => ?_)
      have h3 : vp_nar .byte z15 = nI (c_F b 0 m) := by
        rw [e15, ey]
        show _ = nI (if b m = true then 1 else 0)
        cases b m
        · exact c_nar01.2
        · exact c_nar01.1
      rw [h3, c_atg]
      unfold upd
      by_cases z : S = m
      · rw [if_pos z, z]
      · rw [if_neg z]; exact hf S (by omega)
    refine ⟨ha, ha, ha, b_in (by omega) (by omega), fun q => ?_, fun q => ?_⟩
    · exact fin 1 (by rw [if_pos ((hb m (by omega)).mpr q)])
    · exact fin 0 (by rw [if_neg (fun z => (hb m (by omega)).mp z q)])
/-- a matroid with another array in another place -/
def c_new (M : px_MR) (k q N : Nat) : px_MR := (va_up M.1 k q, M.2.1, va_up M.2.2.1 k N, va_up M.2.2.2.1 k (fun _ => 0), M.2.2.2.2)
theorem c_r23 (ha : a < cm) (hn : n ≤ 12) (hs : M.2.1 13 = nI n) (hl : 2 ^ n ≤ M.2.2.1 7) (hl6 : 2 ^ n ≤ M.2.2.1 6) (hb : ∀ S, S < 2 ^ n → (b S = true ↔ ¬ M.2.2.2.1 6 S = 0))
    (h : ∀ f, (∀ S, S < 2 ^ n → f S = nI (x_mu2 (x_in b n) n S)) → post q_o l_o o_r g_o g_t (va_up mm a (c_rd M f))) (f0 : Nat → Int32) : w263_L23 a cm np ns pa sa pp ss mc ms post (nI (2 ^ n)) q_o l_o o_r g_o g_t (c_at mm a M 7 f0) kc ks := by
  unfold w263_L23
  refine ⟨2 ^ n + 1, ?_⟩
  have h4 : ∀ f, c_mix (2 ^ n) (x_in b n) (x_in b n) f n → ∃ j, w263_L139 a cm np ns pa sa pp ss mc ms post j (nI (2 ^ n)) 0 q_o l_o o_r g_o g_t (c_at mm a M 7 f) kc ks := fun f hf => ⟨n + 1, by
    have := c_r139 (np := np) (ns := ns) (pa := pa) (sa := sa) (pp := pp) (ss := ss) (mc := mc) (ms := ms) (kc := kc) (ks := ks) (b := b) (post := post) (mm := mm) ha hn hs hl (fun f hf => h f (fun S hS => by rw [hf S hS, if_pos hS])) n 0 f (by omega) hf
    rw [nI_0] at this
    exact this⟩
  have h3 : ∀ f, c_mix (2 ^ n) (c_F b n) (c_F b n) f n → ∃ j, w263_L108 a cm np ns pa sa pp ss mc ms post j (nI (2 ^ n)) 0 q_o l_o o_r g_o g_t (c_at mm a M 7 f) kc ks := fun f hf => ⟨2 ^ n + 1, by
    have := c_r108 (np := np) (ns := ns) (pa := pa) (sa := sa) (pp := pp) (ss := ss) (mc := mc) (ms := ms) (kc := kc) (ks := ks) (b := b) (post := post) (mm := mm) ha hn hl h4 (2 ^ n) 0 f (by omega) (fun S hS => by rw [hf S hS, if_pos hS, if_neg (Nat.not_lt_zero S)])
    rw [nI_0] at this
    exact this⟩
  have h2 : ∀ f, c_mix (2 ^ n) (c_F b 0) (c_F b 0) f n → ∃ j, w263_L59 a cm np ns pa sa pp ss mc ms post j (nI (2 ^ n)) 0 q_o l_o o_r g_o g_t (c_at mm a M 7 f) kc ks := fun f hf => ⟨n + 1, by
    have := c_r59 (np := np) (ns := ns) (pa := pa) (sa := sa) (pp := pp) (ss := ss) (mc := mc) (ms := ms) (kc := kc) (ks := ks) (b := b) (post := post) (mm := mm) ha hn hs hl h3 n 0 f (by omega) hf
    rw [nI_0] at this
    exact this⟩
  have := c_r25 (np := np) (ns := ns) (pa := pa) (sa := sa) (pp := pp) (ss := ss) (mc := mc) (ms := ms) (kc := kc) (ks := ks) (b := b) (post := post) (mm := mm) ha hn hl hl6 hb h2 (2 ^ n) 0 f0 (by omega) (fun S hS => absurd hS (Nat.not_lt_zero S))
  rw [nI_0] at this
  exact this
end CRK
