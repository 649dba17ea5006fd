/-! PURE, the class: Minors: what the tables hold (determinants of the kept rows), clear -/
/-- the numbers that are held when h rows k are kept -/
def x_za (p n : Nat) (k : Nat → Nat → Int) (h T : Nat) : Int := if T < 2 ^ n ∧ x_n T ≤ h then x_md p (x_W k (x_n T) T) else 0
theorem x_mdd (p : Nat) (a b c : Int) : x_md p (a + c * x_md p b) = x_md p (a + c * b) := by
  unfold x_md
  by_cases q : p = 0
  · rw [if_pos q, if_pos q, if_pos q]
  · rw [if_neg q, if_neg q, if_neg q, Int.add_emod, Int.mul_emod, Int.emod_emod, ← Int.mul_emod, ← Int.add_emod]
theorem x_mda (p : Nat) (a b : Int) : x_md p (x_md p a + b) = x_md p (a + b) := by
  unfold x_md
  by_cases q : p = 0
  · rw [if_pos q, if_pos q, if_pos q]
  · rw [if_neg q, if_neg q, if_neg q, Int.add_emod, Int.emod_emod, ← Int.add_emod]
theorem x_mdsm (p : Nat) {f g : Nat → Int} : ∀ n, (∀ e, e < n → x_md p (f e) = x_md p (g e)) → x_md p (x_sm n f) = x_md p (x_sm n g)
  | 0, _ => rfl
  | n + 1, h => by
    have h1 := x_mdsm p n (fun e he => h e (by omega))
    have h2 := h n (by omega)
    show x_md p (x_sm n f + f n) = x_md p (x_sm n g + g n)
    rw [← x_mda, h1, x_mda, Int.add_comm, ← x_mda, h2, x_mda, Int.add_comm]
theorem x_mdw (p : Nat) (r : Nat → Int) {F G : Nat → Int} {S : Nat} (h : ∀ e, e < 12 → S.testBit e = true → G (x_t S e) = x_md p (F (x_t S e))) : x_md p (x_w r G S) = x_md p (x_w r F S) := by
  unfold x_w
  refine x_mdsm p 12 (fun e he => ?_)
  by_cases q : S.testBit e = true
  · rw [if_pos q, if_pos q, h e he q]
    have := x_mdd p 0 (F (x_t S e)) (x_s Int (x_od S e) * r e)
    rw [Int.zero_add, Int.zero_add] at this
    exact this
  · rw [if_neg q, if_neg q]
theorem x_rlc {R : Type} {k k' : Nat → Nat → R} : ∀ m, (∀ i, i < m → k i = k' i) → x_rl k m = x_rl k' m
  | 0, _ => rfl
  | m + 1, h => by
    show k m :: x_rl k m = k' m :: x_rl k' m
    rw [h m (by omega), x_rlc m (fun i hi => h i (by omega))]
theorem x_zas {p n h : Nat} (hn : n ≤ 12) (k : Nat → Nat → Int) (r : Nat → Int) (T : Nat) : x_zn p n h r (x_za p n k h) T = x_za p n (fun i => if i = h then r else k i) (h + 1) T := by
  have hk : ∀ m, m ≤ h → x_W (fun i => if i = h then r else k i) m = x_W k m := fun m hm => by
    unfold x_W
    rw [x_rlc m (fun i hi => if_neg (by omega))]
  by_cases q1 : T < 2 ^ n
  · by_cases q2 : x_n T = h + 1
    · have e1 : x_zn p n h r (x_za p n k h) T = x_md p (x_w r (x_za p n k h) T) := if_pos ⟨q1, q2⟩
      have e2 : x_za p n (fun i => if i = h then r else k i) (h + 1) T = x_md p (x_W (fun i => if i = h then r else k i) (x_n T) T) := if_pos ⟨q1, by omega⟩
      rw [e1, e2, q2, x_Ws, if_pos rfl, hk h (Nat.le_refl h)]
      refine x_mdw p r (fun e he hb => ?_)
      have hc := x_nt1 he hb
      have hlt : x_t T e < 2 ^ n := by
        have hen : e < n := by
          rcases Nat.lt_or_ge e n with k1 | k1
          · exact k1
          · rw [Nat.testBit_lt_two_pow (Nat.lt_of_lt_of_le q1 (Nat.pow_le_pow_right (by decide) k1))] at hb
            exact Bool.noConfusion hb
        exact Nat.xor_lt_two_pow q1 (Nat.pow_lt_pow_right (by decide) hen)
      rw [show x_za p n k h (x_t T e) = x_md p (x_W k (x_n (x_t T e)) (x_t T e)) from if_pos ⟨hlt, by omega⟩, show x_n (x_t T e) = h by omega]
    · have e1 : x_zn p n h r (x_za p n k h) T = x_za p n k h T := if_neg (fun kk => q2 kk.2)
      rw [e1]
      by_cases q3 : x_n T ≤ h
      · rw [show x_za p n k h T = x_md p (x_W k (x_n T) T) from if_pos ⟨q1, q3⟩, show x_za p n (fun i => if i = h then r else k i) (h + 1) T = x_md p (x_W (fun i => if i = h then r else k i) (x_n T) T) from if_pos ⟨q1, by omega⟩, hk _ q3]
      · rw [show x_za p n k h T = 0 from if_neg (fun kk => q3 kk.2), show x_za p n (fun i => if i = h then r else k i) (h + 1) T = 0 from if_neg (fun kk => by omega)]
  · rw [show x_zn p n h r (x_za p n k h) T = x_za p n k h T from if_neg (fun kk => q1 kk.1), show x_za p n k h T = 0 from if_neg (fun kk => q1 kk.1), show x_za p n (fun i => if i = h then r else k i) (h + 1) T = 0 from if_neg (fun kk => q1 kk.1)]
theorem x_zab {p n h : Nat} (hn : n ≤ 12) {k : Nat → Nat → Int} (hk : ∀ i e, (k i e).natAbs ≤ 999) (hp : p < 2 ^ 31) (T : Nat) : (x_za p n k h T).natAbs < 2 ^ 143 ∧ (p ≠ 0 → 0 ≤ x_za p n k h T ∧ x_za p n k h T < p) := by
  unfold x_za
  by_cases q : T < 2 ^ n ∧ x_n T ≤ h
  · rw [if_pos q]
    unfold x_md
    by_cases z : p = 0
    · rw [if_pos z]
      refine ⟨?_, fun w => absurd z w⟩
      have := x_small k (x_n T) (x_nle T) (fun i _ e _ => by have := hk i e; omega) T (Nat.lt_of_lt_of_le q.1 (Nat.pow_le_pow_right (by decide) hn))
      omega
    · rw [if_neg z]
      have m0 := Int.emod_nonneg (x_W k (x_n T) T) (show (p : Int) ≠ 0 by omega)
      have m1 := Int.emod_lt_of_pos (x_W k (x_n T) T) (show (0 : Int) < p by omega)
      exact ⟨by omega, fun _ => ⟨m0, m1⟩⟩
  · rw [if_neg q]
    exact ⟨by decide, fun w => ⟨by omega, by omega⟩⟩
theorem x_nzr {T : Nat} (hT : T < 2 ^ 12) (h : x_n T = 0) : T = 0 := by
  by_cases q : T = 0
  · exact q
  · obtain ⟨e, he⟩ := Nat.exists_testBit_of_ne_zero q
    have he2 : e < 12 := by
      rcases Nat.lt_or_ge e 12 with k1 | k1
      · exact k1
      · rw [Nat.testBit_lt_two_pow (Nat.lt_of_lt_of_le hT (Nat.pow_le_pow_right (by decide) k1))] at he
        exact Bool.noConfusion he
    have := x_nt1 he2 he
    omega
theorem x_za0 {p n : Nat} (hp : p ≠ 1) (k : Nat → Nat → Int) (T : Nat) (hT : T < 2 ^ n) (hn : n ≤ 12) : x_za p n k 0 T = if T = 0 then 1 else 0 := by
  by_cases q : T = 0
  · rw [if_pos q, q, show x_za p n k 0 0 = x_md p (x_W k (x_n 0) 0) from if_pos ⟨Nat.two_pow_pos n, by decide⟩, show x_W k (x_n 0) 0 = 1 from rfl]
    unfold x_md
    by_cases z : p = 0
    · rw [if_pos z]
    · rw [if_neg z]
      exact Int.emod_eq_of_lt (by decide) (by omega)
  · rw [if_neg q]
    refine if_neg (fun kk => q ?_)
    exact x_nzr (Nat.lt_of_lt_of_le hT (Nat.pow_le_pow_right (by decide) hn)) (by omega)
section CMC
variable {q_l q_m q_h l q_o l_o : Nat} {m_field m_size m_height : Int32} {m_loaded : Option Nat} {g_l g_m g_h : Nat → Int64} {g_o g_t : Nat → Int32} {o_r : Int32} {n p q mc ms : Nat}
theorem c_clear {post : Nat → Nat → Nat → Nat → Nat → Nat → Int32 → Int32 → Int32 → Option Nat → (Nat → Int64) → (Nat → Int64) → (Nat → Int64) → Nat → Nat → Int32 → (Nat → Int32) → (Nat → Int32) → Prop} (ho : o_Ok l_o o_r g_o g_t q) (hn : n ≤ 12) (hl : l ≤ 4096) (hp : p ≠ 1)
    (hmc : (if 2 ^ n ≤ l then 0 else 3) + (if 2 ^ (n + 1) ≤ l_o then 0 else 1) ≤ mc) (hms : (if 2 ^ n ≤ l then 0 else 3 * 2 ^ n) + (if 2 ^ (n + 1) ≤ l_o then 0 else 2 ^ (n + 1)) ≤ ms)
    (h : ∀ q_l q_m q_h g_l g_m g_h q_o' o' g t, (∀ k T, T < 2 ^ n → mn (x_za p n k 0 T) (g_l T) (g_m T) (g_h T)) → o_Ok (o_ln l_o n) o' g t (max q n) → post q_l q_m q_h (max l (2 ^ n)) (max l (2 ^ n)) (max l (2 ^ n)) (nI p) (nI n) 0 none g_l g_m g_h q_o' (o_ln l_o n) o' g t) :
    w180_wp mc ms post (nI p) (nI n) q_l q_m q_h l l l m_field m_size m_height m_loaded g_l g_m g_h q_o l_o o_r g_o g_t := by
  have h2n : 2 ^ n ≤ 2 ^ 12 := Nat.pow_le_pow_right (by decide) hn
  have h20 : 0 < 2 ^ n := Nat.two_pow_pos n
  have h34 : ∀ (L kc ks q_l q_m q_h : Nat) (g_l g_m g_h : Nat → Int64), L = max l (2 ^ n) → kc + (if 2 ^ (n + 1) ≤ l_o then 0 else 1) ≤ mc → ks + (if 2 ^ (n + 1) ≤ l_o then 0 else 2 ^ (n + 1)) ≤ ms → w180_L34 mc ms post (nI p) (nI n) (nI (2 ^ n)) q_l q_m q_h L L L m_field m_size m_height m_loaded g_l g_m g_h q_o l_o o_r g_o g_t kc ks := by
    intro L kc ks q_l q_m q_h g_l g_m g_h hL h1 h2
    unfold w180_L34
    refine ⟨_, _, h1, h2, c_reach ho hn (fun z => by rw [if_neg z]; exact Nat.le_refl 1) (fun z => by rw [if_neg z]; exact Nat.le_refl _) (fun q' o' g t ho' => ?_)⟩
    refine b_fillLr (by omega) (by omega) (fun f1 a1 b1 => b_fillLr (by omega) (by omega) (fun f2 a2 b2 => b_fillLr (by omega) (by omega) (fun f3 a3 b3 => ⟨b_in (n := 0) (by omega) (by omega), ?_⟩)))
    rw [hL]
    refine h _ _ _ _ _ _ _ _ _ _ (fun k T hT => ?_) ho'
    rw [x_za0 hp k T hT hn, a2 T hT, a3 T hT, show (0 : Int32).toNatClampNeg = 0 from rfl]
    by_cases z : T = 0
    · rw [if_pos z, z, show vp_updL f1 0 1 0 = 1 by simp [vp_updL]]
      exact mn_small (by decide) (by decide) rfl
    · rw [if_neg z, show vp_updL f1 0 1 T = f1 T by simp [vp_updL, z], a1 T hT]
      exact mn_small (by decide) (by decide) rfl
  unfold w180_wp
  intro z14 e14
  rw [e14, b_sh (show n < 31 by omega), nI_clamp (show 2 ^ n < 2 ^ 31 by omega)]
  by_cases z : 2 ^ n ≤ l
  · rw [if_pos z, Nat.zero_add] at hmc hms
    exact ⟨fun _ => h34 l 0 0 _ _ _ _ _ _ (by omega) (by omega) (by omega), fun k => absurd (nI_le z (by omega)) k⟩
  · rw [if_neg z] at hmc hms
    refine ⟨fun k => absurd k (nI_ge (by omega) (by omega)), fun _ => ⟨nI_pos (by omega), by omega, by omega, by omega, fun q1 => ⟨nI_pos (by omega), by omega, by omega, by omega, fun q2 => ⟨nI_pos (by omega), by omega, by omega, by omega, fun q3 => ?_⟩⟩⟩⟩
    exact h34 (2 ^ n) _ _ _ _ _ _ _ _ (by omega) (by omega) (by omega)
end CMC
