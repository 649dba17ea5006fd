/-! PURE, the class: Matroid.span -/
def c_pt (M : px_MR) (c : Nat → Int32) (pt : Nat → Option Nat) : px_MR := (M.1, M.2.1, M.2.2.1, va_up M.2.2.2.1 2 c, M.2.2.2.2.1, pt)
def x_sg (z : Int) : Int32 := if z < 0 then -1 else if z = 0 then 0 else 1
theorem x_sg3 (z : Int) : c_s3 (x_sg z) := by
  unfold x_sg
  split
  · exact Or.inl rfl
  · split
    · exact Or.inr (Or.inl rfl)
    · exact Or.inr (Or.inr rfl)
def x_ssg (Z : Nat → Int) (r S : Nat) : Int32 := if x_n S = r then x_sg (Z S) else 0
section CSP
variable {a cm np ns : Nat} {pa sa : Nat → Nat} {pp : Nat → px_PR} {ss : Nat → px_SR} {mc ms : Nat} {q_o l_o : Nat} {o_r : Int32} {g_o g_t : Nat → Int32} {mm : Nat → px_MR} {n r q z : Nat} {q_l q_m q_h l : Nat} {m_field m_size m_height : Int32} {m_loaded : Option Nat} {g_l g_m g_h : Nat → Int64} {Z : Nat → Int}
theorem c_sp65 {post : Nat → Nat → Int32 → (Nat → Int32) → (Nat → Int32) → (Nat → px_MR) → Nat → Nat → Nat → Nat → Nat → Nat → Int32 → Int32 → Int32 → Option Nat → (Nat → Int64) → (Nat → Int64) → (Nat → Int64) → Nat → (Nat → Nat) → (Nat → px_PR) → Prop} {M : px_MR} {x3 : Nat} {kc ks : Nat} (ha : a < cm) (hn : n ≤ 12) (hr : r ≤ n) (hsz : M.2.1 13 = nI n) (hrk : M.2.1 14 = nI r) (hl : 2 ^ n ≤ M.2.2.1 6) (hl2 : M.2.2.1 6 < 2 ^ 31) (ho : o_Ok l_o o_r g_o g_t q) (hnq : n ≤ q) (hll : 2 ^ n ≤ l) (hL : ∀ T, T < 2 ^ n → mn (Z T) (g_l T) (g_m T) (g_h T)) (hZ : ∀ T, (Z T).natAbs < 2 ^ 143)
    (h : ∀ f, (∀ S, S < 2 ^ n → f S = x_tu (M.2.1 12) (x_f1 (x_ssg Z r) n r) (x_ssg Z r S)) → post q_o l_o o_r g_o g_t (va_up mm a (c_set M 6 f)) q_l q_m q_h l l l m_field m_size m_height m_loaded g_l g_m g_h np pa pp) :
    ∀ (u k : Nat) (f : Nat → Int32), k + u = 2 ^ n → (∀ S, S < k → f S = x_ssg Z r S) → w245_L65 a cm ns sa ss z mc ms post (u + 1) x3 (nI k) q_o l_o o_r g_o g_t (va_up mm a (c_set M 6 f)) q_l q_m q_h l l l m_field m_size m_height m_loaded g_l g_m g_h np pa pp kc ks := by
  have hp := b_p12 hn
  have hp0 := Nat.two_pow_pos n
  intro u
  induction u with
  | zero =>
    intro k f hk hf
    refine ⟨ha, c_all (mm := va_up mm a (c_set M 6 f)) ha hn (by rw [va_up_self]; exact hsz) ⟨fun _ => ⟨ha, ?_⟩, fun w => absurd (nI_lt (show 2 ^ n - 1 < k by omega) (by omega)) w⟩⟩
    refine c_turnUp (M := c_set M 6 f) (s := x_ssg Z r) ha hn hr hsz hrk hl (fun S hS => ?_) (fun S hS => ?_) ho hnq (fun f' hf' => ?_)
    · show (va_up M.2.2.2.1 6 f) 6 S = _
      rw [va_up_self]; exact hf S (by omega)
    · unfold x_ssg
      split
      · exact x_sg3 _
      · exact Or.inr (Or.inl rfl)
    · rw [c_ss]
      exact h f' hf'
  | succ u ih =>
    intro k f hk hf
    have hkl : k < 2 ^ n := by omega
    have e14 : ((va_up mm a (c_set M 6 f)) a).2.1 14 = nI r := by rw [va_up_self]; exact hrk
    have e6 : ((va_up mm a (c_set M 6 f)) a).2.2.1 6 = M.2.2.1 6 := by rw [va_up_self]; rfl
    have c6 : ((va_up mm a (c_set M 6 f)) a).2.2.2.1 6 = f := c_atg
    have fin : ∀ y : Int32, vp_nar .byte y = x_ssg Z r k → w245_L103 (w245_L65 a cm ns sa ss z mc ms post (u + 1)) a cm ns sa ss z mc ms post x3 (nI k) y (nI k) q_o l_o o_r g_o g_t (va_up mm a (c_set M 6 f)) q_l q_m q_h l l l m_field m_size m_height m_loaded g_l g_m g_h np pa pp kc ks := by
      intro y ey
      unfold w245_L103
      rw [e6, nI_clamp (show k < 2 ^ 31 by omega)]
      refine ⟨ha, b_in (by omega) (by omega), fun mm2 e2 z3 e3 => ?_⟩
      rw [c_atu e2, c6, e3, nI_1, ey]
      refine ih (k + 1) _ (by omega) (fun S hS => ?_)
      by_cases w : S = k
      · rw [w, pk_us]
      · rw [pk_un w]; exact hf S (by omega)
    refine ⟨ha, c_all (mm := va_up mm a (c_set M 6 f)) ha hn (by rw [va_up_self]; exact hsz) ⟨fun w => absurd w (nI_nlt (by omega) (by omega)), fun _ => ⟨ha, ?_⟩⟩⟩
    refine b_bc (by omega) ⟨ha, ?_⟩
    rw [e14]
    have hxn := x_nlen hn hkl
    refine ⟨fun w => fin 0 ?_, fun w => ?_⟩
    · rw [show x_ssg Z r k = 0 from if_neg (fun e => w (by rw [e]))]; decide
    · have e : x_n k = r := (nI_eq (by omega) (by omega)).1 w
      have hz := hZ k
      refine c_msign (z := Z k) (by omega) (by omega) (by omega) (by omega) (by omega) (hL k hkl) (fin _ ?_)
      rw [show x_ssg Z r k = x_sg (Z k) from if_pos e]
      exact c_s3b (x_sg3 (Z k))
end CSP
