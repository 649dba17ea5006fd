/-! PURE, the reference: smallDeterminant, over the residues of a prime -/
theorem x_fsub {a f x p : Nat} (hf : f < p) : (p - f * x % p + a) % p = (a + (p - f) * x) % p := by
  have h1 := Nat.div_add_mod (f * x) p
  have h2 := Nat.mod_lt (f * x) (show 0 < p by omega)
  have h3 : (p - f) * x + f * x = p * x := by rw [← Nat.add_mul, Nat.sub_add_cancel (by omega)]
  have h4 : (p - f * x % p + a) + p * x = (a + (p - f) * x) + p * (f * x / p + 1) := by
    rw [Nat.mul_add, Nat.mul_one]
    generalize f * x / p = q at *
    generalize f * x % p = r at *
    generalize p * q = pq at *
    generalize (p - f) * x = y at *
    generalize p * x = z at *
    omega
  have h5 := congrArg (fun t => t % p) h4
  simp only [Nat.add_mul_mod_self_left] at h5
  exact h5
section RSM
variable {p n c : Nat} {A B : Nat → Nat → Fin p} {iv fr fc gs : Nat → Int32}
theorem x_fdom [NeZero p] (hp : 1 < p) (hex : ∀ a, 0 < a → a < p → ∃ b, b < p ∧ a * b % p = 1) : x_dom (Fin p) := by
  have one : ((1 : Fin p)).val = 1 := by show 1 % p = 1; exact Nat.mod_eq_of_lt hp
  refine ⟨fun a b h => ?_, fun h => ?_⟩
  · by_cases q : a = 0
    · exact Or.inl q
    · refine Or.inr ?_
      have ha : 0 < a.val := Nat.pos_of_ne_zero (fun z => q (Fin.ext z))
      obtain ⟨i, hi, e⟩ := hex a.val ha a.isLt
      have e1 : a * ⟨i, hi⟩ = (1 : Fin p) := Fin.ext (by rw [Fin.val_mul, e]; exact one.symm)
      have e2 : b = (a * b) * ⟨i, hi⟩ := by
        have : (a * b) * ⟨i, hi⟩ = (a * ⟨i, hi⟩) * b := by grind
        rw [this, e1]; grind
      rw [e2, h]; grind
  · have := congrArg Fin.val h
    have this : (1 : Fin p).val = (0 : Fin p).val := this
    rw [one] at this
    exact absurd this (by simp)
def r_St [NeZero p] (n c : Nat) (A B : Nat → Nat → Fin p) (g : Nat → Int32) : Prop := (∀ k j, k < n → j < n → g (6 * k + j) = nI (B k j).val) ∧ (∀ k j, k < n → j < c → j < k → B k j = 0) ∧ (∀ i, i < c → ¬ B i i = 0) ∧ (x_d A n = 0 ↔ x_d B n = 0) ∧ (∀ k j, n ≤ j → B k j = 0)
theorem x_trid [NeZero p] (hd : x_dom (Fin p)) (hc : c ≤ n) (hn : n ≤ 12) (h1 : ∀ k j, k < n → j < c → j < k → B k j = 0) (h2 : ∀ i, i < c → ¬ B i i = 0) : ∀ c', c' ≤ c → ¬ x_d B c' = 0 := by
  intro c'
  induction c' with
  | zero => intro _; rw [x_d0]; exact hd.2
  | succ c' ih =>
    intro hc'
    rw [x_tri B c' (by omega) (fun e he => h1 c' e (by omega) (by omega) he)]
    intro z
    rcases hd.1 _ _ z with q | q
    · exact h2 c' (by omega) q
    · exact ih (by omega) q
/-- row k less f times row c, its places below j -/
def x_sub1 [NeZero p] (B : Nat → Nat → Fin p) (c k : Nat) (f : Fin p) : Nat → Nat → Fin p := fun k' => if k' = k then (fun j => B k j - f * B c j) else B k'
theorem r_sE [NeZero p] {K60 : Int32 → Int32 → (Nat → Int32) → (Nat → Int32) → (Nat → Int32) → (Nat → Int32) → (Nat → Int32) → Prop} {K188 : Int32 → Int32 → Int32 → Int32 → Int32 → (Nat → Int32) → (Nat → Int32) → (Nat → Int32) → (Nat → Int32) → (Nat → Int32) → Prop} {post : Int32 → (Nat → Int32) → (Nat → Int32) → (Nat → Int32) → (Nat → Int32) → (Nat → Int32) → Prop} {x3 x4 : Int32} {k : Nat} {f : Fin p} (hp : p < 256) (hiv : iv 12 = nI p) (hn : n ≤ 6) (hk : k < n) (hck : c < k) (hz : ∀ j, j < c → B c j = 0)
    (hK : ∀ g2, (∀ k' j', k' < n → j' < n → g2 (6 * k' + j') = nI (x_sub1 B c k f k' j').val) → K188 (nI n) (nI c) x3 x4 (nI (k + 1)) iv gs fr fc g2) : ∀ (u j : Nat) (g : Nat → Int32), j + u = n → c ≤ j → (∀ k' j', k' < n → j' < n → g (6 * k' + j') = nI ((if k' = k ∧ j' < j then B k j' - f * B c j' else B k' j').val)) → w60_L219 K60 K188 post (u + 1) (nI n) (nI c) x3 x4 (nI k) (nI f.val) (nI j) iv gs fr fc g := by
  intro u
  induction u with
  | zero =>
    intro j g hj hcj hg
    have : j = n := by omega
    subst this
    refine ⟨fun _ z ez => ?_, fun w => absurd (nI_le (Nat.le_refl j) (by omega)) w⟩
    rw [ez, nI_1]
    refine hK g (fun k' j' q1 q2 => ?_)
    rw [hg k' j' q1 q2]
    unfold x_sub1
    by_cases w : k' = k
    · rw [if_pos ⟨w, q2⟩, if_pos w]
    · rw [if_neg (fun z => w z.1), if_neg w]
  | succ u ih =>
    intro j g hj hcj hg
    have gk := hg k j hk (by omega)
    have gc := hg c j (by omega) (by omega)
    rw [if_neg (by omega)] at gk gc
    have fl := f.isLt
    have bk := (B k j).isLt
    have bc := (B c j).isLt
    have hm : (p - f.val) * (B c j).val ≤ 256 * 256 := Nat.mul_le_mul (by omega) (by omega)
    unfold w60_L219
    rw [b_ix6 (i := k) (j := j), b_ix6 (i := c) (j := j), nI_clamp (show 6 * k + j < 2 ^ 31 by omega), nI_clamp (show 6 * c + j < 2 ^ 31 by omega), gk, gc, hiv, pk_sub (show f.val ≤ p by omega), pk_mul, nI_add, pk_rem (by omega) (by omega) (by omega)]
    refine ⟨fun w => absurd w (nI_ge (by omega) (by omega)), fun _ => ⟨b_in (by omega) (by omega), b_in (by omega) (by omega), nI_ne0 (by omega) (by omega), fun z2 e2 => ⟨b_in (by omega) (by omega), fun z3 e3 => ?_⟩⟩⟩
    rw [e3, nI_1]
    refine ih (j + 1) _ (by omega) (by omega) (fun k' j' q1 q2 => ?_)
    by_cases w : k' = k ∧ j' = j
    · rw [w.1, w.2, pk_us, if_pos ⟨rfl, by omega⟩, e2]
      congr 1
      rw [Fin.sub_def]
      show _ = (p - (f * B c j).val + (B k j).val) % p
      rw [Fin.val_mul, x_fsub fl]
    · rw [pk_un (by omega), hg k' j' q1 q2]
      have e : (k' = k ∧ j' < j + 1) ↔ (k' = k ∧ j' < j) := by omega
      simp only [e]
theorem r_sR [NeZero p] {K60 : Int32 → Int32 → (Nat → Int32) → (Nat → Int32) → (Nat → Int32) → (Nat → Int32) → (Nat → Int32) → Prop} {post : Int32 → (Nat → Int32) → (Nat → Int32) → (Nat → Int32) → (Nat → Int32) → (Nat → Int32) → Prop} {x3 : Int32} {y : Nat} (hp1 : 1 < p) (hp : p < 256) (hiv : iv 12 = nI p) (hn : n ≤ 6) (hcn : c < n) (hy : y < p)
    (hK : ∀ B' g2, r_St n (c + 1) A B' g2 → K60 (nI n) (nI (c + 1)) iv gs fr fc g2) : ∀ (u k : Nat) (B : Nat → Nat → Fin p) (g : Nat → Int32), k + u = n → c < k → r_St n c A B g → ¬ B c c = 0 → (B c c).val * y % p = 1 → (∀ k', c < k' → k' < k → B k' c = 0) → w60_L188 K60 post (u + 1) (nI n) (nI c) x3 (nI y) (nI k) iv gs fr fc g := by
  intro u
  induction u with
  | zero =>
    intro k B g hk hck hS hcc hinv hz
    have : k = n := by omega
    subst this
    obtain ⟨s1, s2, s3, s4, s5⟩ := hS
    refine ⟨fun _ z ez => ?_, fun w => absurd (nI_le (Nat.le_refl k) (by omega)) w⟩
    rw [ez, nI_1]
    refine hK B g ⟨s1, fun k' j q1 q2 q3 => ?_, fun i hi => ?_, s4, s5⟩
    · by_cases q : j = c
      · subst q; exact hz k' q3 q1
      · exact s2 k' j q1 (by omega) q3
    · by_cases q : i = c
      · subst q; exact hcc
      · exact s3 i (by omega)
  | succ u ih =>
    intro k B g hk hck hS hcc hinv hz
    obtain ⟨s1, s2, s3, s4, s5⟩ := hS
    have bk := (B k c).isLt
    have hm : (B k c).val * y ≤ 256 * 256 := Nat.mul_le_mul (by omega) (by omega)
    unfold w60_L188
    rw [b_ix6 (i := k) (j := c), nI_clamp (show 6 * k + c < 2 ^ 31 by omega), s1 k c (by omega) hcn, hiv, pk_mul, pk_rem (by omega) (by omega) (by omega)]
    refine ⟨fun w => absurd w (nI_ge (by omega) (by omega)), fun _ => ⟨b_in (by omega) (by omega), nI_ne0 (by omega) (by omega), fun z5 e5 => ⟨n - c + 1, ?_⟩⟩⟩
    have hk1 : k + 1 + u = n := by omega
    have hck1 : c < k + 1 := by omega
    have hkn : k < n := by omega
    obtain ⟨f, fe, ff⟩ : ∃ f : Fin p, (B k c).val * y % p = f.val ∧ f * B c c = B k c := by
      have one : B c c * (⟨y, hy⟩ : Fin p) = 1 := Fin.ext (by rw [Fin.val_mul, hinv]; show 1 = 1 % p; rw [Nat.mod_eq_of_lt hp1])
      refine ⟨B k c * ⟨y, hy⟩, by rw [Fin.val_mul], ?_⟩
      have : (B k c * ⟨y, hy⟩) * B c c = B k c * (B c c * ⟨y, hy⟩) := by grind
      rw [this, one]; grind
    rw [e5, fe]
    clear e5 fe
    have hz0 : ∀ j, j < c → B c j = 0 := fun j hj => s2 c j hcn hj hj
    have ekk : x_sub1 B c k f k = fun j => B k j - f * B c j := if_pos rfl
    have eko : ∀ k', k' ≠ k → x_sub1 B c k f k' = B k' := fun k' q => if_neg q
    have hdet : x_d (x_sub1 B c k f) n = x_d B n := by
      have e1 := x_Wo (p := B) (q := x_sub1 B c k f) (i := k) (j := c) (n := n) (1 : Fin p) (- f) (Nat.ne_of_gt hck) hkn hcn (fun e _ => by
        rw [ekk]
        show B k e - f * B c e = _
        grind) (fun k' _ q e _ => by rw [eko k' q]) (2 ^ n - 1)
      unfold x_d; rw [e1]; grind
    have hSt : ∀ g2 : Nat → Int32, (∀ k' j', k' < n → j' < n → g2 (6 * k' + j') = nI (x_sub1 B c k f k' j').val) → r_St n c A (x_sub1 B c k f) g2 := by
      intro g2 hg2
      refine ⟨hg2, fun k' j q1 q2 q3 => ?_, fun i hi => ?_, ?_, fun k' j q => ?_⟩
      · by_cases q : k' = k
        · subst q
          rw [ekk]
          show B k' j - f * B c j = 0
          rw [s2 k' j q1 q2 q3, hz0 j q2]; grind
        · rw [eko k' q]; exact s2 k' j q1 q2 q3
      · rw [eko i (Nat.ne_of_lt (Nat.lt_trans hi hck))]; exact s3 i hi
      · rw [hdet]; exact s4
      · by_cases w : k' = k
        · subst w
          rw [ekk]
          show B k' j - f * B c j = 0
          rw [s5 k' j q, s5 c j q]; grind
        · rw [eko k' w]; exact s5 k' j q
    have hne : c ≠ k := Nat.ne_of_lt hck
    refine r_sE hp hiv hn hkn hck hz0 (fun g2 hg2 => ?_) (n - c) c g (Nat.add_sub_cancel' (Nat.le_of_lt hcn)) (Nat.le_refl c) (fun k' j' q1 q2 => ?_)
    · refine ih (k + 1) (x_sub1 B c k f) g2 hk1 hck1 (hSt g2 hg2) ?_ ?_ (fun k' q1 q2 => ?_)
      · rw [eko c hne]; exact hcc
      · rw [eko c hne]; exact hinv
      · by_cases q : k' = k
        · subst q
          rw [ekk]
          show B k' c - f * B c c = 0
          rw [ff]; grind
        · rw [eko k' q]; exact hz k' q1 (Nat.lt_of_le_of_ne (Nat.le_of_lt_succ q2) q)
    · rw [s1 k' j' q1 q2]
      by_cases w : k' = k ∧ j' < c
      · rw [if_pos w, w.1, hz0 j' w.2, s2 k j' hkn w.2 (Nat.lt_trans w.2 hck)]
        congr 2
        grind
      · rw [if_neg w]
theorem r_sS [NeZero p] {K60 : Int32 → Int32 → (Nat → Int32) → (Nat → Int32) → (Nat → Int32) → (Nat → Int32) → (Nat → Int32) → Prop} {post : Int32 → (Nat → Int32) → (Nat → Int32) → (Nat → Int32) → (Nat → Int32) → (Nat → Int32) → Prop} {i : Nat} {B : Nat → Nat → Fin p} (hp1 : 1 < p) (hp : p < 256) (hiv : iv 12 = nI p) (hn : n ≤ 6) (hi : i < n) (hc : c < n) (hne : ¬ B i c = 0) (hex : ∀ a, 0 < a → a < p → ∃ b, b < p ∧ a * b % p = 1) {g : Nat → Int32} (hg : ∀ k j, k < n → j < n → g (6 * k + j) = nI (B k j).val)
    (h : ∀ y g2, y < p → (B i c).val * y % p = 1 → (∀ k j, k < n → j < n → g2 (6 * k + j) = nI (B (x_pi i c k) j).val) → ∃ t, w60_L188 K60 post t (nI n) (nI c) (nI i) (nI y) (nI (c + 1)) iv gs fr fc g2) : ∃ t, w60_L102 K60 post t (nI n) (nI c) (nI i) 0 iv gs fr fc g := by
  have pi1 : x_pi i c i = c := if_pos rfl
  have pi2 : x_pi i c c = i := by
    unfold x_pi
    by_cases q : c = i
    · rw [if_pos q]; exact q
    · rw [if_neg q, if_pos rfl]
  have main : ∀ (u j : Nat) (g1 : Nat → Int32), j + u = n → (∀ k j', k < n → j' < n → g1 (6 * k + j') = nI (B (if j' < j then x_pi i c k else k) j').val) → w60_L102 K60 post (u + 1) (nI n) (nI c) (nI i) (nI j) iv gs fr fc g1 := by
    intro u
    induction u with
    | zero =>
      intro j g1 hj h1
      have : j = n := by omega
      subst this
      have h2 : ∀ k j', k < j → j' < j → g1 (6 * k + j') = nI (B (x_pi i c k) j').val := fun k j' q1 q2 => by
        have := h1 k j' q1 q2
        rw [if_pos q2] at this; exact this
      have hcc := h2 c c hc hc
      rw [pi2] at hcc
      unfold w60_L102
      rw [b_ix6 (i := c) (j := c), nI_clamp (show 6 * c + c < 2 ^ 31 by omega), hcc]
      have hv : 0 < (B i c).val := Nat.pos_of_ne_zero (fun z => hne (Fin.ext z))
      obtain ⟨b, hb1, hb2⟩ := hex _ hv (B i c).isLt
      have hinv : (B i c).val * x_inv p (B i c).val % p = 1 := by
        obtain ⟨b', hb1', hb2'⟩ := pk_least (fun b => b < p ∧ (B i c).val * b % p = 1) ⟨b, hb1, hb2⟩
        rw [x_inv1 hb1'.1 hb1'.2 (fun d _ h2 q => hb2' d h2 ⟨by omega, q⟩)]
        exact hb1'.2
      refine ⟨fun _ => ⟨b_in (by omega) (by omega), r_inverse hp1 hp (B i c).isLt hiv ⟨b, hb1, hb2⟩ (fun z7 e7 => ?_)⟩, fun w => absurd (nI_le (Nat.le_refl j) (by omega)) w⟩
      rw [e7, nI_1]
      exact h _ g1 (x_invl (by omega)) hinv h2
    | succ u ih =>
      intro j g1 hj h1
      have zi := h1 i j hi (by omega)
      have zc := h1 c j hc (by omega)
      rw [if_neg (Nat.lt_irrefl j)] at zi zc
      unfold w60_L102
      rw [b_ix6 (i := i) (j := j), b_ix6 (i := c) (j := j), nI_clamp (show 6 * i + j < 2 ^ 31 by omega), nI_clamp (show 6 * c + j < 2 ^ 31 by omega)]
      refine ⟨fun w => absurd w (nI_ge (by omega) (by omega)), fun _ => ⟨b_in (by omega) (by omega), fun z8 e8 => ⟨b_in (by omega) (by omega), fun z9 e9 => ⟨b_in (by omega) (by omega), b_in (by omega) (by omega), fun z10 e10 => ?_⟩⟩⟩⟩
      rw [e10, nI_1]
      refine ih (j + 1) _ (by omega) (fun k j' hk hj' => ?_)
      by_cases qc : k = c ∧ j' = j
      · rw [qc.1, qc.2, pk_us, if_pos (by omega), pi2, e8]; exact zi
      · rw [pk_un (by omega)]
        by_cases qi : k = i ∧ j' = j
        · rw [qi.1, qi.2, pk_us, if_pos (by omega), pi1, e9]; exact zc
        · rw [pk_un (by omega), h1 k j' hk hj']
          by_cases q : j' < j
          · rw [if_pos q, if_pos (by omega)]
          · rw [if_neg q]
            by_cases q' : j' = j
            · have : x_pi i c k = k := by unfold x_pi; rw [if_neg (fun z => qi ⟨z, q'⟩), if_neg (fun z => qc ⟨z, q'⟩)]
              rw [if_pos (by omega), this]
            · rw [if_neg (by omega)]
  exact ⟨n + 1, main n 0 g (by omega) (fun k j' hk hj' => by rw [if_neg (Nat.not_lt_zero j')]; exact hg k j' hk hj')⟩
theorem r_sM [NeZero p] {post : Int32 → (Nat → Int32) → (Nat → Int32) → (Nat → Int32) → (Nat → Int32) → (Nat → Int32) → Prop} (hp1 : 1 < p) (hp : p < 256) (hiv : iv 12 = nI p) (hn : n ≤ 6) (hex : ∀ a, 0 < a → a < p → ∃ b, b < p ∧ a * b % p = 1) (h : ∀ g', post (if x_d A n = 0 then 0 else 1) iv gs fr fc g') : ∀ (u c : Nat) (B : Nat → Nat → Fin p) (g : Nat → Int32), c + u = n → r_St n c A B g → w60_L60 post (u + 1) (nI n) (nI c) iv gs fr fc g := by
  have hdom := x_fdom hp1 hex
  intro u
  induction u with
  | zero =>
    intro c B g hc hS
    obtain ⟨s1, s2, s3, s4, s5⟩ := hS
    have : c = n := by omega
    subst this
    have hd := x_trid hdom (Nat.le_refl c) (by omega) s2 s3 c (Nat.le_refl c)
    refine ⟨fun _ => ?_, fun w => absurd (nI_le (Nat.le_refl c) (by omega)) w⟩
    have := h g
    rw [if_neg (fun z => hd (s4.1 z))] at this
    exact this
  | succ u ih =>
    intro c B g hc hS
    obtain ⟨s1, s2, s3, s4, s5⟩ := hS
    have hd := x_trid hdom (show c ≤ n by omega) (by omega) s2 s3 c (Nat.le_refl c)
    refine ⟨fun w => absurd w (nI_ge (by omega) (by omega)), fun _ => ⟨n - c + 1, ?_⟩⟩
    have find : ∀ (v i : Nat), i + v = n → c ≤ i → (∀ i', c ≤ i' → i' < i → B i' c = 0) → w60_L67 (w60_L60 post (u + 1)) post (v + 1) (nI n) (nI c) (nI i) iv gs fr fc g := by
      intro v
      induction v with
      | zero =>
        intro i hi hci hz
        have : i = n := by omega
        subst this
        unfold w60_L67 w60_L92
        refine ⟨fun _ => ⟨fun w => absurd rfl w, fun _ => ?_⟩, fun w => absurd (nI_le (Nat.le_refl i) (by omega)) w⟩
        have e0 : x_d B i = 0 := x_nopiv hdom B c i (by omega) (by omega) hd (fun k q1 q2 => x_mulow B c k (fun e he => by
          by_cases q : e = c
          · subst q; exact hz k q1 q2
          · exact s2 k e q2 (by omega) (by omega)))
        have := h g
        rw [if_pos (s4.2 e0)] at this
        exact this
      | succ v ihv =>
        intro i hi hci hz
        unfold w60_L67 w60_L92
        rw [b_ix6 (i := i) (j := c), nI_clamp (show 6 * i + c < 2 ^ 31 by omega), s1 i c (by omega) (by omega)]
        have bl := (B i c).isLt
        refine ⟨fun w => absurd w (nI_ge (by omega) (by omega)), fun _ => ⟨b_in (by omega) (by omega), fun w => ⟨fun _ => ?_, fun w' => absurd ((nI_eq (by omega) (by omega)).1 w') (by omega)⟩, fun w z ez => ?_⟩⟩
        · have hne : ¬ B i c = 0 := fun q => w (by rw [q]; rfl)
          refine r_sS hp1 hp hiv hn (by omega) (by omega) hne hex s1 (fun y g2 hy hinv hg2 => ⟨n - (c + 1) + 1, ?_⟩)
          have pc : x_pi i c c = i := by
            unfold x_pi
            by_cases q : c = i
            · rw [if_pos q]; exact q
            · rw [if_neg q, if_pos rfl]
          have hpl : ∀ k, k < n → x_pi i c k < n ∧ (c ≤ k → c ≤ x_pi i c k) := by
            intro k hk
            unfold x_pi
            split
            · exact ⟨by omega, fun _ => by omega⟩
            · split
              · exact ⟨by omega, fun _ => by omega⟩
              · exact ⟨hk, fun q => q⟩
          have hlow : ∀ k, k < c → x_pi i c k = k := fun k hk => by
            unfold x_pi; rw [if_neg (by omega), if_neg (by omega)]
          refine r_sR (A := A) hp1 hp hiv hn (by omega) hy (fun B' g3 hS3 => ih (c + 1) B' g3 (by omega) hS3) (n - (c + 1)) (c + 1) (fun k => B (x_pi i c k)) g2 (by omega) (by omega) ⟨hg2, fun k j q1 q2 q3 => ?_, fun k hk => ?_, ?_, fun k j q => s5 _ j q⟩ (by show ¬ B (x_pi i c c) c = 0; rw [pc]; exact hne) (by show (B (x_pi i c c) c).val * y % p = 1; rw [pc]; exact hinv) (fun k' q1 q2 => by omega)
          · show B (x_pi i c k) j = 0
            by_cases q : k < c
            · rw [hlow k q]; exact s2 k j q1 q2 q3
            · exact s2 _ j (hpl k q1).1 q2 (by have := (hpl k q1).2 (by omega); omega)
          · show ¬ B (x_pi i c k) k = 0
            rw [hlow k hk]; exact s3 k hk
          · by_cases q : i = c
            · have : x_d (fun k => B (x_pi i c k)) n = x_d B n := x_Wc n (fun i' hi' e _ => by
                show B (x_pi i c i') e = B i' e
                have : x_pi i c i' = i' := by
                  unfold x_pi
                  by_cases z : i' = i
                  · rw [if_pos z]; omega
                  · rw [if_neg z, if_neg (by omega)]
                rw [this]) _
              rw [this]; exact s4
            · have : x_d (fun k => B (x_pi i c k)) n = - x_d B n := x_Wsw (i := i) (j := c) q (by omega) (by omega) (fun e _ => by show B (x_pi i c i) e = B c e; rw [show x_pi i c i = c from if_pos rfl]) (fun e _ => by show B (x_pi i c c) e = B i e; rw [pc]) (fun k _ q1 q2 e _ => by show B (x_pi i c k) e = B k e; unfold x_pi; rw [if_neg q1, if_neg q2]) _
              rw [this, s4]
              constructor
              · intro z; rw [z]; grind
              · intro z; have : x_d B n = - (- x_d B n) := by grind
                rw [this, z]; grind
        · have hz0 : B i c = 0 := Fin.ext ((nI_eq (by omega) (by decide) (b := 0)).1 w)
          rw [ez, nI_1]
          refine ihv (i + 1) (by omega) (by omega) (fun i' h1 h2 => ?_)
          by_cases q : i' = i
          · subst q; exact hz0
          · exact hz i' h1 (by omega)
    exact find (n - c) c (by omega) (Nat.le_refl c) (fun i' h1 h2 => by omega)
theorem r_detP [NeZero p] {post : Int32 → (Nat → Int32) → (Nat → Int32) → (Nat → Int32) → (Nat → Int32) → (Nat → Int32) → Prop} {gm : Nat → Int32} {ro co : Nat → Nat} (hp1 : 1 < p) (hp : p < 256) (hiv : iv 12 = nI p) (hn : n ≤ 6) (hex : ∀ a, 0 < a → a < p → ∃ b, b < p ∧ a * b % p = 1) (hro : ∀ i, i < n → ro i < 13 ∧ fr i = nI (ro i)) (hco : ∀ j, j < n → co j < 12 ∧ fc j = nI (co j)) (hA : ∀ i j, i < n → j < n → gs (12 * ro i + co j) = nI (A i j).val) (hA0 : ∀ k j, n ≤ j → A k j = 0) (h : ∀ g', post (if x_d A n = 0 then 0 else 1) iv gs fr fc g') : w60_wp post (nI n) iv gs fr fc gm := by
  have rows : ∀ (u i : Nat) (g1 : Nat → Int32), i + u = n → (∀ i' j', i' < i → j' < n → g1 (6 * i' + j') = nI (A i' j').val) → w60_L2 post (u + 1) (nI n) (nI i) iv gs fr fc g1 := by
    intro u
    induction u with
    | zero =>
      intro i g1 hi h2
      have : i = n := by omega
      subst this
      refine ⟨fun _ => ⟨i + 1, ?_⟩, fun w => absurd (nI_le (Nat.le_refl i) (by omega)) w⟩
      exact r_sM (A := A) hp1 hp hiv hn hex h i 0 A g1 (by omega) ⟨fun k j hk hj => h2 k j hk hj, fun k j _ q => absurd q (Nat.not_lt_zero j), fun i q => absurd q (Nat.not_lt_zero i), Iff.rfl, hA0⟩
    | succ u ih =>
      intro i g1 hi h2
      refine ⟨fun w => absurd w (nI_ge (by omega) (by omega)), fun _ => ⟨n + 1, ?_⟩⟩
      have cols : ∀ (v j : Nat) (g2 : Nat → Int32), j + v = n → (∀ i' j', i' < n → j' < n → (i' < i ∨ (i' = i ∧ j' < j)) → g2 (6 * i' + j') = nI (A i' j').val) → w60_L9 (w60_L2 post (u + 1)) post (v + 1) (nI n) (nI i) (nI j) iv gs fr fc g2 := by
        intro v
        induction v with
        | zero =>
          intro j g2 hj k2
          have : j = n := by omega
          subst this
          refine ⟨fun _ z ez => ?_, fun w => absurd (nI_le (Nat.le_refl j) (by omega)) w⟩
          rw [ez, nI_1]
          exact ih (i + 1) g2 (by omega) (fun i' j' q1 q2 => k2 i' j' (by omega) q2 (by omega))
        | succ v ihv =>
          intro j g2 hj k2
          obtain ⟨r1, r2⟩ := hro i (by omega)
          obtain ⟨c1, c2⟩ := hco j (by omega)
          unfold w60_L9
          rw [b_ix6 (i := i) (j := j), nI_clamp (show 6 * i + j < 2 ^ 31 by omega), nI_clamp (show i < 2 ^ 31 by omega), nI_clamp (show j < 2 ^ 31 by omega), r2, c2, b_ix12, nI_clamp (show 12 * ro i + co j < 2 ^ 31 by omega), hA i j (by omega) (by omega)]
          refine ⟨fun w => absurd w (nI_ge (by omega) (by omega)), fun _ => ⟨b_in (by omega) (by omega), b_in (by omega) (by omega), b_in (by omega) (by omega), fun z13 e13 => ⟨b_in (by omega) (by omega), fun z ez => ?_⟩⟩⟩
          rw [ez, nI_1]
          refine ihv (j + 1) _ (by omega) (fun i' j' q1 q2 q3 => ?_)
          by_cases q : i' = i ∧ j' = j
          · rw [q.1, q.2, pk_us, e13]
          · rw [pk_un (by omega)]; exact k2 i' j' q1 q2 (by omega)
      exact cols n 0 g1 (by omega) (fun i' j' q1 q2 q3 => h2 i' j' (by omega) q2)
  exact ⟨n + 1, rows n 0 gm (by omega) (fun i' j' q => absurd q (Nat.not_lt_zero i'))⟩
end RSM
