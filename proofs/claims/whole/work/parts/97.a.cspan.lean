/-! PURE, the class: Matroid.span -/
def c_pt (M : px_MR) (c : Nat → Int32) (pt : Nat → Option Nat) : px_MR := (M.1, M.2.1, M.2.2.1, va_up M.2.2.2.1 2 c, M.2.2.2.2.1, pt)
def x_sg (z : Int) : Int32 := if z < 0 then -1 else if z = 0 then 0 else 1
theorem x_sg3 (z : Int) : c_s3 (x_sg z) := by
  unfold x_sg
  split
  · exact Or.inl rfl
  · split
    · exact Or.inr (Or.inl rfl)
    · exact Or.inr (Or.inr rfl)
def x_ssg (Z : Nat → Int) (r S : Nat) : Int32 := if x_n S = r then x_sg (Z S) else 0
section CSP
variable {a cm np ns : Nat} {pa sa : Nat → Nat} {pp : Nat → px_PR} {ss : Nat → px_SR} {mc ms : Nat} {q_o l_o : Nat} {o_r : Int32} {g_o g_t : Nat → Int32} {mm : Nat → px_MR} {n r q z : Nat} {q_l q_m q_h l : Nat} {m_field m_size m_height : Int32} {m_loaded : Option Nat} {g_l g_m g_h : Nat → Int64} {Z : Nat → Int}
theorem c_sp65 {post : Nat → Nat → Int32 → (Nat → Int32) → (Nat → Int32) → (Nat → px_MR) → Nat → Nat → Nat → Nat → Nat → Nat → Int32 → Int32 → Int32 → Option Nat → (Nat → Int64) → (Nat → Int64) → (Nat → Int64) → Nat → (Nat → Nat) → (Nat → px_PR) → Prop} {M : px_MR} {x3 : Nat} {kc ks : Nat} (ha : a < cm) (hn : n ≤ 12) (hr : r ≤ n) (hsz : M.2.1 13 = nI n) (hrk : M.2.1 14 = nI r) (hl : 2 ^ n ≤ M.2.2.1 6) (hl2 : M.2.2.1 6 < 2 ^ 31) (ho : o_Ok l_o o_r g_o g_t q) (hnq : n ≤ q) (hll : 2 ^ n ≤ l) (hL : ∀ T, T < 2 ^ n → mn (Z T) (g_l T) (g_m T) (g_h T)) (hZ : ∀ T, (Z T).natAbs < 2 ^ 143)
    (h : ∀ f, (∀ S, S < 2 ^ n → f S = x_tu (M.2.1 12) (x_f1 (x_ssg Z r) n r) (x_ssg Z r S)) → post q_o l_o o_r g_o g_t (va_up mm a (c_set M 6 f)) q_l q_m q_h l l l m_field m_size m_height m_loaded g_l g_m g_h np pa pp) :
    ∀ (u k : Nat) (f : Nat → Int32), k + u = 2 ^ n → (∀ S, S < k → f S = x_ssg Z r S) → w245_L65 a cm ns sa ss z mc ms post (u + 1) x3 (nI k) q_o l_o o_r g_o g_t (va_up mm a (c_set M 6 f)) q_l q_m q_h l l l m_field m_size m_height m_loaded g_l g_m g_h np pa pp kc ks := by
  have hp := b_p12 hn
  have hp0 := Nat.two_pow_pos n
  intro u
  induction u with
  | zero =>
    intro k f hk hf
    refine ⟨ha, c_all (mm := va_up mm a (c_set M 6 f)) ha hn (by rw [va_up_self]; exact hsz) ⟨fun _ => ⟨ha, ?_⟩, fun w => absurd (nI_lt (show 2 ^ n - 1 < k by omega) (by omega)) w⟩⟩
    refine c_turnUp (M := c_set M 6 f) (s := x_ssg Z r) ha hn hr hsz hrk hl (fun S hS => ?_) (fun S hS => ?_) ho hnq (fun f' hf' => ?_)
    · show (va_up M.2.2.2.1 6 f) 6 S = _
      rw [va_up_self]; exact hf S (by omega)
    · unfold x_ssg
      split
      · exact x_sg3 _
      · exact Or.inr (Or.inl rfl)
    · rw [c_ss]
      exact h f' hf'
  | succ u ih =>
    intro k f hk hf
    have hkl : k < 2 ^ n := by omega
    have e14 : ((va_up mm a (c_set M 6 f)) a).2.1 14 = nI r := by rw [va_up_self]; exact hrk
    have e6 : ((va_up mm a (c_set M 6 f)) a).2.2.1 6 = M.2.2.1 6 := by rw [va_up_self]; rfl
    have c6 : ((va_up mm a (c_set M 6 f)) a).2.2.2.1 6 = f := c_atg
    have fin : ∀ y : Int32, vp_nar .byte y = x_ssg Z r k → w245_L103 (w245_L65 a cm ns sa ss z mc ms post (u + 1)) a cm ns sa ss z mc ms post x3 (nI k) y (nI k) q_o l_o o_r g_o g_t (va_up mm a (c_set M 6 f)) q_l q_m q_h l l l m_field m_size m_height m_loaded g_l g_m g_h np pa pp kc ks := by
      intro y ey
      unfold w245_L103
      rw [e6, nI_clamp (show k < 2 ^ 31 by omega)]
      refine ⟨ha, b_in (by omega) (by omega), fun mm2 e2 z3 e3 => ?_⟩
      rw [c_atu e2, c6, e3, nI_1, ey]
      refine ih (k + 1) _ (by omega) (fun S hS => ?_)
      by_cases w : S = k
      · rw [w, pk_us]
      · rw [pk_un w]; exact hf S (by omega)
    refine ⟨ha, c_all (mm := va_up mm a (c_set M 6 f)) ha hn (by rw [va_up_self]; exact hsz) ⟨fun w => absurd w (nI_nlt (by omega) (by omega)), fun _ => ⟨ha, ?_⟩⟩⟩
    refine b_bc (by omega) ⟨ha, ?_⟩
    rw [e14]
    have hxn := x_nlen hn hkl
    refine ⟨fun w => fin 0 ?_, fun w => ?_⟩
    · rw [show x_ssg Z r k = 0 from if_neg (fun e => w (by rw [e]))]; decide
    · have e : x_n k = r := (nI_eq (by omega) (by omega)).1 w
      have hz := hZ k
      refine c_msign (z := Z k) (by omega) (by omega) (by omega) (by omega) (by omega) (hL k hkl) (fin _ ?_)
      rw [show x_ssg Z r k = x_sg (Z k) from if_pos e]
      exact c_s3b (x_sg3 (Z k))
theorem c_sp30 {post : Nat → Nat → Int32 → (Nat → Int32) → (Nat → Int32) → (Nat → px_MR) → Nat → Nat → Nat → Nat → Nat → Nat → Int32 → Int32 → Int32 → Option Nat → (Nat → Int64) → (Nat → Int64) → (Nat → Int64) → Nat → (Nat → Nat) → (Nat → px_PR) → Prop} {M : px_MR} {x3 : Nat} {kc ks : Nat} (ha : a < cm) (hn : n ≤ 12) (hr : r ≤ n) (hsz : M.2.1 13 = nI n) (hrk : M.2.1 14 = nI r) (hl : 2 ^ n ≤ M.2.2.1 6) (hl2 : M.2.2.1 6 < 2 ^ 31) (ho : o_Ok l_o o_r g_o g_t q) (hnq : n ≤ q) (hll : 2 ^ n ≤ l) (hL : ∀ T, T < 2 ^ n → mn (Z T) (g_l T) (g_m T) (g_h T)) (hZ : ∀ T, (Z T).natAbs < 2 ^ 143) (hx3 : x3 < np)
    (h : ∀ c pt f, (∀ e, e < n → c e = nI e ∧ pt e = some x3) → (∀ e, n ≤ e → pt e = M.2.2.2.2.2 e) → (∀ S, S < 2 ^ n → f S = x_tu (M.2.1 12) (x_f1 (x_ssg Z r) n r) (x_ssg Z r S)) → post q_o l_o o_r g_o g_t (va_up mm a (c_set (c_pt M c pt) 6 f)) q_l q_m q_h l l l m_field m_size m_height m_loaded g_l g_m g_h np pa pp) :
    ∀ (u k : Nat) (c : Nat → Int32) (pt : Nat → Option Nat), k + u = n → (∀ e, e < k → c e = nI e ∧ pt e = some x3) → (∀ e, n ≤ e → pt e = M.2.2.2.2.2 e) → w245_L30 a cm ns sa ss z mc ms post (u + 1) x3 (nI k) q_o l_o o_r g_o g_t (va_up mm a (c_pt M c pt)) q_l q_m q_h l l l m_field m_size m_height m_loaded g_l g_m g_h np pa pp kc ks := by
  have hp0 := Nat.two_pow_pos n
  intro u
  induction u with
  | zero =>
    intro k c pt hk hc hpt
    have e13 : ((va_up mm a (c_pt M c pt)) a).2.1 13 = nI n := by rw [va_up_self]; exact hsz
    refine ⟨ha, fun _ => ⟨2 ^ n + 1, ?_⟩, fun w => ?_⟩
    · have := c_sp65 (M := c_pt M c pt) (mm := mm) (post := post) (x3 := x3) (kc := kc) (ks := ks) (z := z) (mc := mc) (ms := ms) (np := np) (pa := pa) (pp := pp) (sa := sa) (ss := ss) (ns := ns) (q_l := q_l) (q_m := q_m) (q_h := q_h) (m_field := m_field) (m_size := m_size) (m_height := m_height) (m_loaded := m_loaded) (Z := Z) ha hn hr hsz hrk hl hl2 ho hnq hll hL hZ (fun f hf => h c pt f (fun e he => hc e (by omega)) hpt hf) (2 ^ n) 0 ((c_pt M c pt).2.2.2.1 6) (by omega) (fun S hS => absurd hS (Nat.not_lt_zero S))
      rw [c_self] at this
      exact this
    · rw [e13] at w
      exact absurd (nI_le (by omega) (by omega)) w
  | succ u ih =>
    intro k c pt hk hc hpt
    have e13 : ((va_up mm a (c_pt M c pt)) a).2.1 13 = nI n := by rw [va_up_self]; exact hsz
    refine ⟨ha, fun w => ?_, fun _ => ⟨ha, ha, b_in (by omega) (by omega), hx3, fun mm32 e32 => ⟨ha, ha, b_in (by omega) (by omega), fun mm33 e33 z34 e34 => ?_⟩⟩⟩
    · rw [e13] at w
      exact absurd w (nI_ge (by omega) (by omega))
    · rw [va_up_self, b_upup, nI_clamp (show k < 2 ^ 31 by omega)] at e32
      rw [e32, va_up_self, b_upup, nI_clamp (show k < 2 ^ 31 by omega)] at e33
      have e33' : mm33 = va_up mm a (c_pt M (upd c k (nI k)) (va_up pt k (some x3))) := by
        rw [e33]
        show va_up mm a (M.1, M.2.1, M.2.2.1, va_up (va_up M.2.2.2.1 2 c) 2 (upd ((va_up M.2.2.2.1 2 c) 2) k (nI k)), M.2.2.2.2.1, va_up pt k (some x3)) = _
        rw [va_up_self, b_upup]; rfl
      rw [e33', e34, nI_1]
      refine ih (k + 1) _ _ (by omega) (fun e he => ?_) (fun e he => ?_)
      · by_cases w : e = k
        · rw [w, pk_us, va_up_self]; exact ⟨rfl, rfl⟩
        · rw [pk_un w, va_up_ne _ _ w]; exact hc e (by omega)
      · rw [va_up_ne _ _ (by omega)]; exact hpt e he
theorem c_span {post : Nat → Nat → Int32 → (Nat → Int32) → (Nat → Int32) → (Nat → px_MR) → Nat → Nat → Nat → Nat → Nat → Nat → Int32 → Int32 → Int32 → Option Nat → (Nat → Int64) → (Nat → Int64) → (Nat → Int64) → Nat → (Nat → Nat) → (Nat → px_PR) → Prop} {p : Int32} (ha : a < cm) (hz : z < ns) (hn : n ≤ 12) (hr : r ≤ n) (hs1 : (ss z).2.1 = p) (hs2 : (ss z).2.2.1 = nI n) (hs3 : (ss z).2.2.2.1 = nI r) (h31 : (mm a).2.2.1 6 ≤ 4096) (ho : o_Ok l_o o_r g_o g_t q) (hll : 2 ^ n ≤ l) (hL : ∀ T, T < 2 ^ n → mn (Z T) (g_l T) (g_m T) (g_h T)) (hZ : ∀ T, (Z T).natAbs < 2 ^ 143) (hpok : px_pok cm np mm) (hmc : c_bgc l_o (mm a) n + 1 ≤ mc) (hms : c_bgs l_o (mm a) n + 3 ≤ ms)
    (h : ∀ q' o' g t M' c pt f q16, o_Ok (o_ln l_o n) o' g t (max q n) → c_bgn (mm a) M' p n (nI r) → (∀ e, e < n → c e = nI e ∧ pt e = some np) → (∀ e, n ≤ e → pt e = (mm a).2.2.2.2.2 e) → (∀ S, S < 2 ^ n → f S = x_tu p (x_f1 (x_ssg Z r) n r) (x_ssg Z r S)) → post q' (o_ln l_o n) o' g t (va_up mm a (c_set (c_pt M' c pt) 6 f)) q_l q_m q_h l l l m_field m_size m_height m_loaded g_l g_m g_h (np + 1) (va_up pa np q16) (va_up pp np (z, 0, 0))) :
    w245_wp a cm ns sa ss z mc ms post q_o l_o o_r g_o g_t mm q_l q_m q_h l l l m_field m_size m_height m_loaded g_l g_m g_h np pa pp := by
  have h2n : 2 ^ n ≤ 2 ^ 12 := Nat.pow_le_pow_right (by decide) hn
  unfold w245_wp
  rw [hs1, hs2, hs3]
  refine ⟨hz, hz, hz, c_bgc l_o (mm a) n, c_bgs l_o (mm a) n, by omega, by omega, ha, c_begin ha hn ho (by omega) (Nat.le_refl _) (Nat.le_refl _) (fun q' o' g t M' ho' hM => ⟨by omega, by omega, fun q16 => ?_⟩)⟩
  unfold w248_wp
  refine ⟨⟨rfl, rfl⟩, rfl, ?_, fun pa48 pp48 e1 e2 => ⟨n + 1, ?_⟩⟩
  · intro i hi e k hk
    by_cases w : i = a
    · rw [w, va_up_self, hM.2.2.2.2.2.2.2.2.2.2.2.1] at hk
      exact hpok a ha e k hk
    · rw [va_up_ne _ _ w] at hk
      exact hpok i hi e k hk
  · rw [e1, e2]
    have e12 : M'.2.1 12 = p := hM.1
    have hl6 : M'.2.2.1 6 = max ((mm a).2.2.1 6) (2 ^ n) := hM.2.2.2.2.2.2.1
    have := c_sp30 (M := M') (mm := mm) (post := post) (x3 := np) (np := np + 1) (kc := 0 + c_bgc l_o (mm a) n + 1) (ks := 0 + c_bgs l_o (mm a) n + 3) (z := z) (mc := mc) (ms := ms) (pa := va_up pa np q16) (pp := va_up pp np (z, 0, 0)) (sa := sa) (ss := ss) (ns := ns) (q_l := q_l) (q_m := q_m) (q_h := q_h) (m_field := m_field) (m_size := m_size) (m_height := m_height) (m_loaded := m_loaded) (Z := Z) ha hn hr hM.2.1 hM.2.2.1 (by omega) (by omega) ho' (Nat.le_max_right q n) hll hL hZ (by omega) (fun c pt f c1 c2 c3 => h q' o' g t M' c pt f q16 ho' hM c1 (fun e he => by rw [c2 e he, hM.2.2.2.2.2.2.2.2.2.2.2.1]) (fun S hS => by rw [c3 S hS, e12])) n 0 (M'.2.2.2.1 2) M'.2.2.2.2.2 (by omega) (fun e he => absurd he (Nat.not_lt_zero e)) (fun _ _ => rfl)
    rw [show c_pt M' (M'.2.2.2.1 2) M'.2.2.2.2.2 = M' by unfold c_pt; rw [b_upself]] at this
    exact this
end CSP
