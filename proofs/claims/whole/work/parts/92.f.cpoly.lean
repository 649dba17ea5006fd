/-! PURE, the class: Arrays.fill; workOutPolynomial, coefficient -/
theorem b_fillI {n : Nat} {post : (Nat → Int32) → Prop} {x : Int32} {g : Nat → Int32} (hn : n < 2 ^ 31) (h : ∀ f, (∀ i, i < n → f i = x) → (∀ i, n ≤ i → f i = g i) → post f) : w247_wp n post x g := by
  have main : ∀ (u k : Nat) (f : Nat → Int32), k + u = n → (∀ i, i < k → f i = x) → (∀ i, k ≤ i → f i = g i) → w247_L5 n post (u + 1) x (nI k) (nI n) f := by
    intro u
    induction u with
    | zero =>
      intro k f hk h1 h2
      have : k = n := by omega
      subst this
      unfold w247_L5
      exact ⟨fun _ => h f h1 h2, fun z => absurd (nI_le (Nat.le_refl k) hn) z⟩
    | succ u ih =>
      intro k f hk h1 h2
      unfold w247_L5
      refine ⟨fun z => absurd z (nI_ge (by omega) hn), fun _ => ⟨b_in (by omega) (by omega), fun z e => ?_⟩⟩
      rw [e, nI_1, nI_clamp (show k < 2 ^ 31 by omega)]
      refine ih (k + 1) _ (by omega) (fun i hi => ?_) (fun i hi => by rw [pk_un (by omega)]; exact h2 i (by omega))
      by_cases z : i = k
      · rw [z, pk_us]
      · rw [pk_un z]; exact h1 i (by omega)
  unfold w247_wp
  intro z e
  rw [e]
  refine ⟨n + 1, ?_⟩
  have := main n 0 g (by omega) (fun i hi => by omega) (fun i _ => rfl)
  rw [nI_0] at this
  exact this
theorem b_fillL {n : Nat} {post : (Nat → Int64) → Prop} {x : Int64} {g : Nat → Int64} (hn : n < 2 ^ 31) (h : ∀ f, (∀ i, i < n → f i = x) → post f) : w282_wp n post x g := by
  have main : ∀ (u k : Nat) (f : Nat → Int64), k + u = n → (∀ i, i < k → f i = x) → w282_L6 n post (u + 1) x (nI k) (nI n) f := by
    intro u
    induction u with
    | zero =>
      intro k f hk h1
      have : k = n := by omega
      subst this
      unfold w282_L6
      exact ⟨fun _ => h f h1, fun z => absurd (nI_le (Nat.le_refl k) hn) z⟩
    | succ u ih =>
      intro k f hk h1
      unfold w282_L6
      refine ⟨fun z => absurd z (nI_ge (by omega) hn), fun _ => ⟨b_in (by omega) (by omega), fun z e => ?_⟩⟩
      rw [e, nI_1, nI_clamp (show k < 2 ^ 31 by omega)]
      refine ih (k + 1) _ (by omega) (fun i hi => ?_)
      by_cases z : i = k
      · rw [z, pk_uLs]
      · rw [pk_uLn z]; exact h1 i (by omega)
  unfold w282_wp
  intro z e
  rw [e]
  refine ⟨n + 1, ?_⟩
  have := main n 0 g (by omega) (fun i hi => by omega)
  rw [nI_0] at this
  exact this
theorem b_fillLr {N m : Nat} {post : (Nat → Int64) → Prop} {x : Int64} {g : Nat → Int64} (hm : m ≤ N) (hN : N < 2 ^ 31) (h : ∀ f, (∀ i, i < m → f i = x) → (∀ i, m ≤ i → f i = g i) → post f) : w186_wp N post 0 (nI m) x g := by
  have main : ∀ (u k : Nat) (f : Nat → Int64), k + u = m → (∀ i, i < k → f i = x) → (∀ i, k ≤ i → f i = g i) → w186_L10 N post (u + 1) 0 (nI m) x (nI k) f := by
    intro u
    induction u with
    | zero =>
      intro k f hk h1 h2
      have : k = m := by omega
      subst this
      unfold w186_L10
      exact ⟨fun _ => h f h1 h2, fun z => absurd (nI_le (Nat.le_refl k) (by omega)) z⟩
    | succ u ih =>
      intro k f hk h1 h2
      unfold w186_L10
      refine ⟨fun z => absurd z (nI_ge (by omega) (by omega)), fun _ => ⟨b_in (by omega) (by omega), fun z e => ?_⟩⟩
      rw [e, nI_1, nI_clamp (show k < 2 ^ 31 by omega)]
      refine ih (k + 1) _ (by omega) (fun i hi => ?_) (fun i hi => by rw [pk_uLn (by omega)]; exact h2 i (by omega))
      by_cases z : i = k
      · rw [z, pk_uLs]
      · rw [pk_uLn z]; exact h1 i (by omega)
  unfold w186_wp w187_wp
  refine ⟨fun _ => ⟨fun _ => ⟨fun _ => ⟨m + 1, ?_⟩, fun z => absurd (nI_le hm hN) z⟩, fun z => absurd (Int32.le_refl 0) z⟩, fun z => absurd (nI_pos' (by omega)) z⟩
  have := main m 0 g (by omega) (fun i hi => by omega) (fun i _ => rfl)
  rw [nI_0] at this
  exact this
theorem b_fillIr {N m : Nat} {post : (Nat → Int32) → Prop} {x : Int32} {g : Nat → Int32} (hm : m ≤ N) (hN : N < 2 ^ 31) (h : ∀ f, (∀ i, i < m → f i = x) → (∀ i, m ≤ i → f i = g i) → post f) : w254_wp N post 0 (nI m) x g := by
  have main : ∀ (u k : Nat) (f : Nat → Int32), k + u = m → (∀ i, i < k → f i = x) → (∀ i, k ≤ i → f i = g i) → w254_L10 N post (u + 1) 0 (nI m) x (nI k) f := by
    intro u
    induction u with
    | zero =>
      intro k f hk h1 h2
      have : k = m := by omega
      subst this
      unfold w254_L10
      exact ⟨fun _ => h f h1 h2, fun z => absurd (nI_le (Nat.le_refl k) (by omega)) z⟩
    | succ u ih =>
      intro k f hk h1 h2
      unfold w254_L10
      refine ⟨fun z => absurd z (nI_ge (by omega) (by omega)), fun _ => ⟨b_in (by omega) (by omega), fun z e => ?_⟩⟩
      rw [e, nI_1, nI_clamp (show k < 2 ^ 31 by omega)]
      refine ih (k + 1) _ (by omega) (fun i hi => ?_) (fun i hi => by rw [pk_un (by omega)]; exact h2 i (by omega))
      by_cases z : i = k
      · rw [z, pk_us]
      · rw [pk_un z]; exact h1 i (by omega)
  unfold w254_wp w187_wp
  refine ⟨fun _ => ⟨fun _ => ⟨fun _ => ⟨m + 1, ?_⟩, fun z => absurd (nI_le hm hN) z⟩, fun z => absurd (Int32.le_refl 0) z⟩, fun z => absurd (nI_pos' (by omega)) z⟩
  have := main m 0 g (by omega) (fun i hi => by omega) (fun i _ => rfl)
  rw [nI_0] at this
  exact this
/-- Tutte's coefficient of x^i y^j -/
def x_T (R : Type) [Lean.Grind.CommRing R] (b : Nat → Bool) (n r i j : Nat) : R := x_sm (2 ^ n) (fun S => x_c R (r - x_rk b S) i * x_c R (x_n S - x_rk b S) j)
/-- how many sets of those below k have their place at p -/
def x_pc (b : Nat → Bool) (r k p : Nat) : Int64 := x_sm k (fun S => if 13 * (r - x_rk b S) + (x_n S - x_rk b S) = p then 1 else 0)
theorem x_nul {n r : Nat} {b : Nat → Bool} (h : x_M n r b) {S : Nat} (hS : S < 2 ^ n) : r + x_n S ≤ n + x_rk b S := by
  have hn := h.1
  -- from S up to all
  have go : ∀ (k T : Nat), T < 2 ^ n → x_n (x_co n T) = k → r + x_n T ≤ n + x_rk b T := by
    intro k
    induction k with
    | zero =>
      intro T hT hk
      have h1 := x_nco hn hT
      have h2 : x_rk b T = r := x_rkall h (fun i hi => by
        have := x_cnz 12 hk i (by omega)
        rw [x_cob hi] at this
        cases hh : T.testBit i
        · rw [hh] at this; exact Bool.noConfusion this
        · rfl)
      omega
    | succ k ih =>
      intro T hT hk
      have hex : ∃ e, e < n ∧ T.testBit e = false := by
        refine Classical.byContradiction (fun hno => ?_)
        have : x_n (x_co n T) = x_cn 12 (fun _ => false) := x_cnc 12 (fun i hi => by
          by_cases q : i < n
          · rw [x_cob q]
            cases hh : T.testBit i
            · exact absurd ⟨i, q, hh⟩ hno
            · rfl
          · exact x_hi (x_col hT) (by omega))
        have h0 : x_cn 12 (fun _ => false) = 0 := rfl
        omega
      obtain ⟨e, he, be⟩ := hex
      have h1 := ih (x_t T e) (x_tl hT he) (by
        have a1 := x_nco hn hT
        have a2 := x_nco hn (x_tl hT he)
        have a3 := x_nt0 (S := T) (show e < 12 by omega) be
        omega)
      have h2 := x_rk1 h (show e < 12 by omega) be
      have h3 := x_nt0 (S := T) (show e < 12 by omega) be
      omega
  exact go _ S hS rfl
/-- both ways of summing -/
theorem x_Tpc {n r : Nat} {b : Nat → Bool} (h : x_M n r b) (i j : Nat) : x_sm (n - r + 1) (fun bb => x_sm (r + 1) (fun aa => x_pc b r (2 ^ n) (13 * aa + bb) * x_c Int64 aa i) * x_c Int64 bb j) = x_T Int64 b n r i j := by
  have r3 := x_rle h
  have hn := h.1
  have hrn : r ≤ n := by
    obtain ⟨B, hb⟩ := h.2.1
    have h1 := h.2.2.1 B hb
    have h2 := x_nco hn h1.1
    omega
  unfold x_T
  have e1 : x_sm (n - r + 1) (fun bb => x_sm (r + 1) (fun aa => x_pc b r (2 ^ n) (13 * aa + bb) * x_c Int64 aa i) * x_c Int64 bb j) = x_sm (n - r + 1) (fun bb => x_sm (r + 1) (fun aa => x_sm (2 ^ n) (fun S => if 13 * (r - x_rk b S) + (x_n S - x_rk b S) = 13 * aa + bb then x_c Int64 aa i * x_c Int64 bb j else 0))) := by
    refine x_smc _ (fun bb _ => ?_)
    rw [show x_sm (r + 1) (fun aa => x_pc b r (2 ^ n) (13 * aa + bb) * x_c Int64 aa i) * x_c Int64 bb j = x_c Int64 bb j * x_sm (r + 1) (fun aa => x_pc b r (2 ^ n) (13 * aa + bb) * x_c Int64 aa i) by grind, ← x_smm]
    refine x_smc _ (fun aa _ => ?_)
    unfold x_pc
    rw [show x_c Int64 bb j * (x_sm (2 ^ n) (fun S => if 13 * (r - x_rk b S) + (x_n S - x_rk b S) = 13 * aa + bb then (1 : Int64) else 0) * x_c Int64 aa i) = (x_c Int64 aa i * x_c Int64 bb j) * x_sm (2 ^ n) (fun S => if 13 * (r - x_rk b S) + (x_n S - x_rk b S) = 13 * aa + bb then (1 : Int64) else 0) by grind, ← x_smm]
    refine x_smc _ (fun S _ => ?_)
    split <;> grind
  rw [e1]
  have e2 : x_sm (n - r + 1) (fun bb => x_sm (r + 1) (fun aa => x_sm (2 ^ n) (fun S => if 13 * (r - x_rk b S) + (x_n S - x_rk b S) = 13 * aa + bb then x_c Int64 aa i * x_c Int64 bb j else 0))) = x_sm (2 ^ n) (fun S => x_sm (n - r + 1) (fun bb => x_sm (r + 1) (fun aa => if 13 * (r - x_rk b S) + (x_n S - x_rk b S) = 13 * aa + bb then x_c Int64 aa i * x_c Int64 bb j else 0))) := by
    have i1 : ∀ bb, x_sm (r + 1) (fun aa => x_sm (2 ^ n) (fun S => if 13 * (r - x_rk b S) + (x_n S - x_rk b S) = 13 * aa + bb then x_c Int64 aa i * x_c Int64 bb j else 0)) = x_sm (2 ^ n) (fun S => x_sm (r + 1) (fun aa => if 13 * (r - x_rk b S) + (x_n S - x_rk b S) = 13 * aa + bb then x_c Int64 aa i * x_c Int64 bb j else 0)) := fun bb => x_sms (R := Int64) (fun aa S => if 13 * (r - x_rk b S) + (x_n S - x_rk b S) = 13 * aa + bb then x_c Int64 aa i * x_c Int64 bb j else 0) (2 ^ n) (r + 1)
    rw [x_smc (n - r + 1) (fun bb _ => i1 bb)]
    exact x_sms (R := Int64) (fun bb S => x_sm (r + 1) (fun aa => if 13 * (r - x_rk b S) + (x_n S - x_rk b S) = 13 * aa + bb then x_c Int64 aa i * x_c Int64 bb j else 0)) (2 ^ n) (n - r + 1)
  rw [e2]
  refine x_smc _ (fun S hS => ?_)
  have u1 := x_rkr h S
  have u2 := x_nul h hS
  have u3 := x_rkn (b := b) S
  rw [x_sm1 (k := x_n S - x_rk b S) _ (by omega) (fun bb hbb hne => x_sm0 _ (fun aa haa => if_neg (by omega))), x_sm1 (k := r - x_rk b S) _ (by omega) (fun aa haa hne => if_neg (by omega)), if_pos rfl]
section CPO
variable {a cm np ns : Nat} {pa sa : Nat → Nat} {pp : Nat → px_PR} {ss : Nat → px_SR} {mc ms : Nat} {q_o l_o : Nat} {o_r : Int32} {g_o g_t : Nat → Int32} {mm : Nat → px_MR} {n r : Nat} {b : Nat → Bool}
theorem c_polB {M : px_MR} {p : Nat → Int64} (h : c_B M n r b) : c_B (c_pol M p) n r b := h
/-- all but ranks and polynomial is the same -/
def c_f78 (M M' : px_MR) : Prop := (∀ k, k ≠ 7 → k ≠ 8 → M'.1 k = M.1 k) ∧ (∀ k, k ≠ 9 → k ≠ 10 → M'.2.1 k = M.2.1 k) ∧ (∀ k, k ≠ 7 → k ≠ 8 → M'.2.2.1 k = M.2.2.1 k) ∧ (∀ k, k ≠ 7 → M'.2.2.2.1 k = M.2.2.2.1 k) ∧ M'.2.2.2.2.2 = M.2.2.2.2.2
/-- the polynomial is there -/
def c_P (M : px_MR) (n r : Nat) (b : Nat → Bool) : Prop := M.2.1 10 = 1 ∧ M.2.2.1 8 = 169 ∧ ∀ i j, i ≤ r → j ≤ n - r → M.2.2.2.2.1 (13 * i + j) = x_T Int64 b n r i j
theorem c_po106 {post : Nat → Nat → Int32 → (Nat → Int32) → (Nat → Int32) → (Nat → px_MR) → Prop} {M1 : px_MR} {p1 : Nat → Int64} {kc ks : Nat} (ha : a < cm) (hB : c_B M1 n r b) (hl : M1.2.2.1 8 = 169)
    (h : ∀ p, (∀ i j, i ≤ r → j ≤ n - r → p (13 * i + j) = x_sm (n - r + 1) (fun l => p1 (13 * i + l) * x_c Int64 l j)) → post q_o l_o o_r g_o g_t (va_up mm a (M1.1, va_up M1.2.1 10 1, M1.2.2.1, M1.2.2.2.1, p, M1.2.2.2.2.2))) :
    ∀ (u k : Nat) (p : Nat → Int64), k + u = r + 1 → (∀ i j, i < k → j ≤ n - r → p (13 * i + j) = x_sm (n - r + 1) (fun l => p1 (13 * i + l) * x_c Int64 l j)) → (∀ i, 13 * k ≤ i → p i = p1 i) → w281_L106 a cm np ns pa sa pp ss mc ms post (u + 1) (nI k) q_o l_o o_r g_o g_t (va_up mm a (c_pol M1 p)) kc ks := by
  have r3 := x_rle hB.2.2.1
  have hn := hB.2.2.1.1
  have e13 : ∀ p, ((va_up mm a (c_pol M1 p)) a).2.1 13 = nI n := fun p => by rw [va_up_self]; exact hB.1
  have e14 : ∀ p, ((va_up mm a (c_pol M1 p)) a).2.1 14 = nI r := fun p => by rw [va_up_self]; exact hB.2.1
  have hrn : r ≤ n := by
    obtain ⟨B, hb⟩ := hB.2.2.1.2.1
    have h1 := hB.2.2.1.2.2.1 B hb
    have h2 := x_nco hn h1.1
    omega
  intro u
  induction u with
  | zero =>
    intro k p hk h1 h2
    have : k = r + 1 := by omega
    subst this
    unfold w281_L106
    rw [e14]
    refine ⟨ha, fun _ => ⟨ha, fun mm1 e1 => ?_⟩, fun z => absurd (nI_lt (show r < r + 1 by omega) (by omega)) z⟩
    have e : mm1 = va_up mm a (M1.1, va_up M1.2.1 10 1, M1.2.2.1, M1.2.2.2.1, p, M1.2.2.2.2.2) := by rw [e1, b_upup, va_up_self]; rfl
    rw [e]
    exact h p (fun i j hi hj => h1 i j (by omega) hj)
  | succ u ih =>
    intro k p hk h1 h2
    unfold w281_L106
    rw [e14, e13, pk_sub hrn]
    refine ⟨ha, fun z => absurd z (nI_nlt (by omega) (by omega)), fun _ => ⟨ha, ha, ha, ?_⟩⟩
    rw [show nI k * 13 = nI (13 * k) from by rw [show (13 : Int32) = nI 13 from rfl, pk_mul, Nat.mul_comm]]
    have := c_low (np := np) (ns := ns) (pa := pa) (sa := sa) (pp := pp) (ss := ss) (q_o := q_o) (l_o := l_o) (o_r := o_r) (g_o := g_o) (g_t := g_t) (mm := mm) (M := M1) (at_ := 13 * k) (ap := 1) (d := n - r) (p0 := p) (post := fun v2 v3 v4 v5 v6 v7 => ∀ z9 : Int32, z9 = nI k + 1 → (w281_L106 a cm np ns pa sa pp ss mc ms post (u + 1)) z9 v2 v3 v4 v5 v6 v7 kc ks) ha (Nat.le_refl 1) (by omega) (by omega) (by omega) hl (fun p' g1 g2 z9 e9 => ?_)
    · exact this
    · rw [e9, nI_1]
      refine ih (k + 1) p' (by omega) (fun i j hi hj => ?_) (fun i hi => ?_)
      · by_cases z : i = k
        · have := g1 j hj
          rw [Nat.mul_one] at this
          rw [z, this]
          exact x_smc _ (fun l _ => by rw [Nat.mul_one, h2 _ (by omega)])
        · rw [g2 _ (fun l hl2 e => by omega)]
          exact h1 i j (by omega) hj
      · rw [g2 _ (fun l hl2 e => by omega)]
        exact h2 i (by omega)
theorem c_po74 {post : Nat → Nat → Int32 → (Nat → Int32) → (Nat → Int32) → (Nat → px_MR) → Prop} {M1 : px_MR} {p0 : Nat → Int64} {kc ks : Nat} (ha : a < cm) (hB : c_B M1 n r b) (hl : M1.2.2.1 8 = 169)
    (h : ∀ p, (∀ i j, i ≤ r → j ≤ n - r → p (13 * i + j) = x_sm (n - r + 1) (fun bb => x_sm (r + 1) (fun aa => p0 (13 * aa + bb) * x_c Int64 aa i) * x_c Int64 bb j)) → post q_o l_o o_r g_o g_t (va_up mm a (M1.1, va_up M1.2.1 10 1, M1.2.2.1, M1.2.2.2.1, p, M1.2.2.2.2.2))) :
    ∀ (u k : Nat) (p : Nat → Int64), k + u = n - r + 1 → (∀ i j, i ≤ r → j < k → p (13 * i + j) = x_sm (r + 1) (fun l => p0 (13 * l + j) * x_c Int64 l i)) → (∀ i j, j < 13 → k ≤ j → p (13 * i + j) = p0 (13 * i + j)) → w281_L74 a cm np ns pa sa pp ss mc ms post (u + 1) (nI k) q_o l_o o_r g_o g_t (va_up mm a (c_pol M1 p)) kc ks := by
  have r3 := x_rle hB.2.2.1
  have hn := hB.2.2.1.1
  have e13 : ∀ p, ((va_up mm a (c_pol M1 p)) a).2.1 13 = nI n := fun p => by rw [va_up_self]; exact hB.1
  have e14 : ∀ p, ((va_up mm a (c_pol M1 p)) a).2.1 14 = nI r := fun p => by rw [va_up_self]; exact hB.2.1
  have hrn : r ≤ n := by
    obtain ⟨B, hb⟩ := hB.2.2.1.2.1
    have h1 := hB.2.2.1.2.2.1 B hb
    have h2 := x_nco hn h1.1
    omega
  intro u
  induction u with
  | zero =>
    intro k p hk h1 h2
    have : k = n - r + 1 := by omega
    subst this
    unfold w281_L74
    rw [e14, e13, pk_sub hrn]
    refine ⟨ha, ha, fun _ => ⟨r + 1 + 1, ?_⟩, fun z => absurd (nI_lt (show n - r < n - r + 1 by omega) (by omega)) z⟩
    have := c_po106 (np := np) (ns := ns) (pa := pa) (sa := sa) (pp := pp) (ss := ss) (q_o := q_o) (l_o := l_o) (o_r := o_r) (g_o := g_o) (g_t := g_t) (mm := mm) (mc := mc) (ms := ms) (kc := kc) (ks := ks) (post := post) (p1 := p) ha hB hl (fun p' g => h p' (fun i j hi hj => by
      rw [g i j hi hj]
      exact x_smc _ (fun bb hbb => by rw [h1 i bb hi hbb]))) (r + 1) 0 p (by omega) (fun i j hi => by omega) (fun i _ => rfl)
    rw [nI_0] at this
    exact this
  | succ u ih =>
    intro k p hk h1 h2
    unfold w281_L74
    rw [e14, e13, pk_sub hrn]
    refine ⟨ha, ha, fun z => absurd z (nI_nlt (by omega) (by omega)), fun _ => ⟨ha, ha, ?_⟩⟩
    have := c_low (np := np) (ns := ns) (pa := pa) (sa := sa) (pp := pp) (ss := ss) (q_o := q_o) (l_o := l_o) (o_r := o_r) (g_o := g_o) (g_t := g_t) (mm := mm) (M := M1) (at_ := k) (ap := 13) (d := r) (p0 := p) (post := fun v2 v3 v4 v5 v6 v7 => ∀ z9 : Int32, z9 = nI k + 1 → (w281_L74 a cm np ns pa sa pp ss mc ms post (u + 1)) z9 v2 v3 v4 v5 v6 v7 kc ks) ha (by omega) (Nat.le_refl 13) r3 (by omega) hl (fun p' g1 g2 z9 e9 => ?_)
    · exact this
    · rw [e9, nI_1]
      refine ih (k + 1) p' (by omega) (fun i j hi hj => ?_) (fun i j hj1 hj2 => ?_)
      · by_cases z : j = k
        · have := g1 i hi
          rw [z, show 13 * i + k = k + i * 13 by omega, this]
          exact x_smc _ (fun l _ => by rw [show k + l * 13 = 13 * l + k by omega, h2 l k (by omega) (Nat.le_refl k)])
        · rw [g2 _ (fun l hl2 e => by omega)]
          exact h1 i j hi (by omega)
      · rw [g2 _ (fun l hl2 e => by omega)]
        exact h2 i j hj1 (by omega)
theorem c_po27 {post : Nat → Nat → Int32 → (Nat → Int32) → (Nat → Int32) → (Nat → px_MR) → Prop} (ha : a < cm) (hM : x_M n r b) :
    ∀ (u k : Nat) (M1 : px_MR) (p : Nat → Int64) (kc ks : Nat), k + u = 2 ^ n → c_B M1 n r b → c_K M1 n b → (k = 0 ∨ c_R M1 n b) → M1.2.2.1 8 = 169 → (∀ i, i < 169 → p i = x_pc b r k i) → kc + c_rc M1 n ≤ mc → ks + c_rs M1 n ≤ ms → (∀ M' p', c_Q M1 M' n b → c_R M' n b → (∀ i j, i ≤ r → j ≤ n - r → p' (13 * i + j) = x_T Int64 b n r i j) → post q_o l_o o_r g_o g_t (va_up mm a (M'.1, va_up M'.2.1 10 1, M'.2.2.1, M'.2.2.2.1, p', M'.2.2.2.2.2))) → w281_L27 a cm np ns pa sa pp ss mc ms post (u + 1) (nI k) q_o l_o o_r g_o g_t (va_up mm a (c_pol M1 p)) kc ks := by
  have hn := hM.1
  have hp := b_p12 hn
  have hp0 := Nat.two_pow_pos n
  have r3 := x_rle hM
  intro u
  induction u with
  | zero =>
    intro k M1 p kc ks hk hB hK hR hl hp1 hmc hms h
    have hk' : k = 2 ^ n := by omega
    unfold w281_L27
    refine ⟨ha, c_all (mm := va_up mm a (c_pol M1 p)) ha hn (by rw [va_up_self]; exact hB.1) ⟨fun _ => ⟨n - r + 1 + 1, ?_⟩, fun z => absurd (nI_lt (show 2 ^ n - 1 < k by omega) (by omega)) z⟩⟩
    have hR' : c_R M1 n b := hR.resolve_left (by omega)
    have := c_po74 (np := np) (ns := ns) (pa := pa) (sa := sa) (pp := pp) (ss := ss) (q_o := q_o) (l_o := l_o) (o_r := o_r) (g_o := g_o) (g_t := g_t) (mm := mm) (mc := mc) (ms := ms) (kc := kc) (ks := ks) (post := post) (p0 := p) ha hB hl (fun p' g => h M1 p' (c_Qr hB (Or.inl hR')) hR' (fun i j hi hj => by
      rw [g i j hi hj, ← x_Tpc hM i j]
      refine x_smc _ (fun bb hbb => ?_)
      congr 1
      exact x_smc _ (fun aa haa => by rw [hp1 _ (by omega), hk']))) (n - r + 1) 0 p (by omega) (fun i j _ hj => by omega) (fun i j _ _ => rfl)
    rw [nI_0] at this
    exact this
  | succ u ih =>
    intro k M1 p kc ks hk hB hK hR hl hp1 hmc hms h
    have hkl : k < 2 ^ n := by omega
    unfold w281_L27
    refine ⟨ha, c_all (mm := va_up mm a (c_pol M1 p)) ha hn (by rw [va_up_self]; exact hB.1) ⟨fun z => absurd z (nI_nlt (by omega) (by omega)), fun _ => ⟨c_rc M1 n, c_rs M1 n, hmc, hms, ha, c_rankOf (mm := va_up mm a (c_pol M1 p)) ha (by rw [va_up_self]; exact hB) (by rw [va_up_self]; exact hK) hkl (by rw [va_up_self]; exact Nat.le_refl _) (by rw [va_up_self]; exact Nat.le_refl _) (fun M2 hQ2 hR2 => ⟨ha, ha, b_bc (show k < 4096 by omega) ?_⟩)⟩⟩⟩
    rw [va_up_self] at hQ2
    have hQ : c_Q M1 (c_pol M2 M1.2.2.2.2.1) n b := by
      refine ⟨Or.inl hR2, ⟨hQ2.2.1.1, hQ2.2.1.2.1, hQ2.2.1.2.2.1, hQ2.2.1.2.2.2.1, ?_⟩, hQ2.2.2.1, ?_⟩
      · show (M1.2.2.2.2.1, M2.2.2.2.2.2) = M1.2.2.2.2
        have := congrArg Prod.snd hQ2.2.1.2.2.2.2
        rw [show M2.2.2.2.2.2 = M1.2.2.2.2.2 from this]
      · rcases hQ2.2.2.2 with z | z
        · exact Or.inl z
        · rw [z]; exact Or.inr rfl
    have hp2 : M2.2.2.2.2.1 = p := congrArg Prod.fst hQ2.2.1.2.2.2.2
    have e2 : M2 = c_pol (c_pol M2 M1.2.2.2.2.1) p := by
      rw [← hp2]; rfl
    rw [b_upup, va_up_self]
    have hB2 := c_QB hB hQ
    have hz := c_Qc hB hQ
    have u1 := x_rkr hM k
    have u2 := x_nul hM hkl
    have u3 := x_rkn (b := b) k
    have u4 := x_nle k
    have l8 : M2.2.2.1 8 = 169 := by rw [hQ2.2.1.2.2.1 8 (by decide)]; exact hl
    rw [show M2.2.1 14 = nI r from hB2.2.1, pk_sub u1, show (13 : Int32) = nI 13 from rfl, pk_mul, nI_add, pk_sub (show x_rk b k ≤ (r - x_rk b k) * 13 + x_n k by omega), nI_clamp (show (r - x_rk b k) * 13 + x_n k - x_rk b k < 2 ^ 31 by omega), l8, hp2]
    refine ⟨ha, b_in (by omega) (by omega), fun z34 e34 => ⟨ha, b_in (by omega) (by omega), fun mm35 e35 z36 e36 => ?_⟩⟩
    have e35' : mm35 = va_up mm a (c_pol (c_pol M2 M1.2.2.2.2.1) (vp_updL p ((r - x_rk b k) * 13 + x_n k - x_rk b k) z34)) := by rw [e35, b_upup]; rfl
    rw [e35', e36, nI_1]
    refine ih (k + 1) (c_pol M2 M1.2.2.2.2.1) _ _ _ (by omega) hB2 (Or.inr hR2) (Or.inr hR2) l8 (fun i hi => ?_) (by omega) (by omega) (fun M' p' hQ' hR' hT => h M' p' (c_Qt hB hQ hQ') hR' hT)
    show _ = x_pc b r k i + (if 13 * (r - x_rk b k) + (x_n k - x_rk b k) = i then 1 else 0)
    by_cases z : i = (r - x_rk b k) * 13 + x_n k - x_rk b k
    · rw [z, pk_uLs, e34, hp1 _ (by omega), if_pos (by omega)]
    · rw [pk_uLn z, hp1 i hi, if_neg (by omega)]; grind
/-- what the polynomial costs -/
def c_pc (M : px_MR) (n : Nat) : Nat := if M.2.1 10 = 0 then c_rc M n + (if M.2.2.1 8 = 0 then 1 else 0) else 0
def c_ps (M : px_MR) (n : Nat) : Nat := if M.2.1 10 = 0 then c_rs M n + (if M.2.2.1 8 = 0 then 169 else 0) else 0
/-- coefficient, of a place that there is -/
theorem c_coef {post : Int64 → Nat → Nat → Int32 → (Nat → Int32) → (Nat → Int32) → (Nat → px_MR) → Prop} {i j : Nat} (ha : a < cm) (hB : c_B (mm a) n r b) (hK : c_K (mm a) n b) (h8 : (mm a).2.2.1 8 = 0 ∨ (mm a).2.2.1 8 = 169) (hP : (mm a).2.1 10 = 0 ∨ c_P (mm a) n r b) (hi : i ≤ r) (hj : j ≤ n - r) (hmc : c_pc (mm a) n ≤ mc) (hms : c_ps (mm a) n ≤ ms)
    (h : ∀ M', c_f78 (mm a) M' → c_K M' n b → c_B M' n r b → c_P M' n r b → ((mm a).2.1 10 = 0 → c_R M' n b ∧ M'.2.2.1 7 = c_rl (mm a) n) → (¬ (mm a).2.1 10 = 0 → M' = mm a) → post (x_T Int64 b n r i j) q_o l_o o_r g_o g_t (va_up mm a M')) : w280_wp a cm np ns pa sa pp ss mc ms post (nI i) (nI j) q_o l_o o_r g_o g_t mm := by
  have hn := hB.2.2.1.1
  have hp := b_p12 hn
  have r3 := x_rle hB.2.2.1
  have hrn : r ≤ n := by
    obtain ⟨B, hb⟩ := hB.2.2.1.2.1
    have h1 := hB.2.2.1.2.2.1 B hb
    have h2 := x_nco hn h1.1
    omega
  have fin : ∀ (M' : px_MR) (mm' : Nat → px_MR) (k1 k2 : Nat), mm' a = M' → c_P M' n r b → post (x_T Int64 b n r i j) q_o l_o o_r g_o g_t mm' → w280_L42 a cm np ns pa sa pp ss mc ms post (nI i) (nI j) q_o l_o o_r g_o g_t mm' k1 k2 := by
    intro M' mm' k1 k2 e hP' hp'
    unfold w280_L42
    rw [e, show (13 : Int32) = nI 13 from rfl, pk_mul, nI_add, nI_clamp (show i * 13 + j < 2 ^ 31 by omega), hP'.2.1, show i * 13 + j = 13 * i + j by omega, hP'.2.2 i j hi hj]
    exact ⟨ha, ha, b_in (by omega) (by omega), hp'⟩
  unfold w280_wp
  rw [hB.1, hB.2.1, pk_sub hrn]
  refine ⟨fun z => absurd z (nI_pos (by omega)), fun _ => ⟨ha, fun z => absurd z (nI_nlt hi (by omega)), fun _ => ⟨fun z => absurd z (nI_pos (by omega)), fun _ => ⟨ha, ha, fun _ => ⟨ha, fun q => ?_, fun q => ?_⟩, fun z => absurd (nI_le hj (by omega)) z⟩⟩⟩⟩
  · have hP' := hP.resolve_left q
    refine fin (mm a) mm 0 0 rfl hP' ?_
    have := h (mm a) ⟨fun _ _ _ => rfl, fun _ _ _ => rfl, fun _ _ _ => rfl, fun _ _ => rfl, rfl⟩ hK hB hP' (fun z => absurd z q) (fun _ => rfl)
    rw [b_upself] at this
    exact this
  · unfold c_pc at hmc
    unfold c_ps at hms
    rw [if_pos q] at hmc hms
    refine ⟨mc, ms, by omega, by omega, ha, ?_⟩
    have go : ∀ (M1 : px_MR) (kc ks : Nat), c_B M1 n r b → c_K M1 n b → M1.2.2.1 8 = 169 → M1.2.1 = (mm a).2.1 → (∀ k, k ≠ 8 → M1.1 k = (mm a).1 k) → (∀ k, k ≠ 8 → M1.2.2.1 k = (mm a).2.2.1 k) → M1.2.2.2.1 = (mm a).2.2.2.1 → M1.2.2.2.2.2 = (mm a).2.2.2.2.2 → kc + c_rc M1 n ≤ mc → ks + c_rs M1 n ≤ ms → ∀ p, w281_L17 a cm np ns pa sa pp ss mc ms (fun v1 v2 v3 v4 v5 v6 => w280_L42 a cm np ns pa sa pp ss mc ms post (nI i) (nI j) v1 v2 v3 v4 v5 v6 (0 + mc) (0 + ms)) q_o l_o o_r g_o g_t (va_up mm a (c_pol M1 p)) kc ks := by
      intro M1 kc ks gB gK g8 gi ga gl gc gp gmc gms p
      unfold w281_L17
      rw [show ((va_up mm a (c_pol M1 p)) a).2.2.1 8 = 169 by rw [va_up_self]; exact g8]
      refine ⟨ha, ha, b_fillL (by omega) (fun f hf mm38 e38 => ⟨2 ^ n + 1, ?_⟩)⟩
      rw [c_polu e38]
      have := c_po27 (np := np) (ns := ns) (pa := pa) (sa := sa) (pp := pp) (ss := ss) (q_o := q_o) (l_o := l_o) (o_r := o_r) (g_o := g_o) (g_t := g_t) (mm := mm) (mc := mc) (ms := ms) (post := fun v1 v2 v3 v4 v5 v6 => w280_L42 a cm np ns pa sa pp ss mc ms post (nI i) (nI j) v1 v2 v3 v4 v5 v6 (0 + mc) (0 + ms)) ha hB.2.2.1 (2 ^ n) 0 M1 f kc ks (by omega) gB gK (Or.inl rfl) g8 (fun i hi => by rw [hf i hi]; rfl) gmc gms (fun M' p' hQ hR hT => ?_)
      · rw [nI_0] at this; exact this
      · have hP' : c_P (M'.1, va_up M'.2.1 10 1, M'.2.2.1, M'.2.2.2.1, p', M'.2.2.2.2.2) n r b := ⟨va_up_self M'.2.1 10 1, by show M'.2.2.1 8 = 169; rw [hQ.2.1.2.2.1 8 (by decide)]; exact g8, hT⟩
        have hB' := c_QB gB hQ
        have hR' : c_R (M'.1, va_up M'.2.1 10 1, M'.2.2.1, M'.2.2.2.1, p', M'.2.2.2.2.2) n b := ⟨by show va_up M'.2.1 10 1 9 = 1; rw [va_up_ne _ _ (by decide)]; exact hR.1, hR.2.1, hR.2.2⟩
        refine fin _ _ _ _ (va_up_self _ _ _) hP' (h _ ⟨fun k h7 h8 => ?_, fun k h9 h10 => ?_, fun k h7 h8 => ?_, fun k h7 => ?_, ?_⟩ (Or.inr hR') ⟨by show va_up M'.2.1 10 1 13 = nI n; rw [va_up_ne _ _ (by decide)]; exact hB'.1, by show va_up M'.2.1 10 1 14 = nI r; rw [va_up_ne _ _ (by decide)]; exact hB'.2.1, hB'.2.2.1, hB'.2.2.2.1, hB'.2.2.2.2.1, hB'.2.2.2.2.2.1, hB'.2.2.2.2.2.2⟩ hP' (fun _ => ⟨hR', ?_⟩) (fun z => absurd q z))
        · show M'.1 k = _; rw [hQ.2.1.1 k h7]; exact ga k h8
        · show va_up M'.2.1 10 1 k = _; rw [va_up_ne _ _ h10, hQ.2.1.2.1 k h9, gi]
        · show M'.2.2.1 k = _; rw [hQ.2.1.2.2.1 k h7]; exact gl k h8
        · show M'.2.2.2.1 k = _; rw [hQ.2.1.2.2.2.1 k h7, gc]
        · show M'.2.2.2.2.2 = _
          have := congrArg Prod.snd hQ.2.1.2.2.2.2
          rw [show M'.2.2.2.2.2 = M1.2.2.2.2.2 from this, gp]
        · show M'.2.2.1 7 = _
          rw [hQ.2.2.1]
          unfold c_rl
          rw [gi, gl 7 (by decide)]
    unfold w281_wp
    refine ⟨ha, ha, fun z => ?_, fun z => ?_⟩
    · have h8' : (mm a).2.2.1 8 = 169 := h8.resolve_left (fun e => z (by rw [e]; rfl))
      have := go (mm a) 0 0 hB hK h8' rfl (fun _ _ => rfl) (fun _ _ => rfl) rfl rfl (by omega) (by omega) (mm a).2.2.2.2.1
      rw [show c_pol (mm a) (mm a).2.2.2.2.1 = mm a from rfl, b_upself] at this
      exact this
    · have h8' : (mm a).2.2.1 8 = 0 := h8.resolve_right (fun e => by rw [e] at z; exact absurd z (by decide))
      rw [if_pos h8'] at hmc hms
      refine ⟨by omega, by omega, fun q12 => ⟨ha, fun mm41 e41 => ?_⟩⟩
      have gk : ∀ k, k ≠ 8 → (va_up (mm a).2.2.1 8 169) k = (mm a).2.2.1 k := fun k hk => va_up_ne _ _ hk
      have := go (va_up (mm a).1 8 q12, (mm a).2.1, va_up (mm a).2.2.1 8 169, (mm a).2.2.2.1, (mm a).2.2.2.2.1, (mm a).2.2.2.2.2) (0 + 1) (0 + 169) ⟨hB.1, hB.2.1, hB.2.2.1, by show 2 ^ n ≤ va_up (mm a).2.2.1 8 169 6; rw [gk 6 (by decide)]; exact hB.2.2.2.1, hB.2.2.2.2.1, by show 16 ≤ va_up (mm a).2.2.1 8 169 7; rw [gk 7 (by decide)]; exact hB.2.2.2.2.2.1, by show va_up (mm a).2.2.1 8 169 7 < _; rw [gk 7 (by decide)]; exact hB.2.2.2.2.2.2⟩ (hK.imp id (fun z => ⟨z.1, by show 2 ^ n ≤ va_up (mm a).2.2.1 8 169 7; rw [gk 7 (by decide)]; exact z.2.1, z.2.2⟩)) (va_up_self (mm a).2.2.1 8 169) rfl (fun k hk => va_up_ne _ _ hk) gk rfl rfl (by unfold c_rc at *; show 0 + 1 + (if (mm a).2.1 9 = 0 ∧ va_up (mm a).2.2.1 8 169 7 < 2 ^ n then 1 else 0) ≤ mc; rw [gk 7 (by decide)]; omega) (by unfold c_rs at *; show 0 + 169 + (if (mm a).2.1 9 = 0 ∧ va_up (mm a).2.2.1 8 169 7 < 2 ^ n then 2 ^ n else 0) ≤ ms; rw [gk 7 (by decide)]; omega) (fun _ => 0)
      rw [e41]
      exact this
end CPO
