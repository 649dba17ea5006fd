/-! PURE, the class: rankOf, raisers, firstBasis -/
/-- a matroid's record holds n elements, rank r, the bases b -/
def c_B (M : px_MR) (n r : Nat) (b : Nat → Bool) : Prop := M.2.1 13 = nI n ∧ M.2.1 14 = nI r ∧ x_M n r b ∧ 2 ^ n ≤ M.2.2.1 6 ∧ (∀ S, S < 2 ^ n → (b S = true ↔ ¬ M.2.2.2.1 6 S = 0)) ∧ 16 ≤ M.2.2.1 7 ∧ M.2.2.1 7 < 2 ^ 31
/-- its ranks are known -/
def c_R (M : px_MR) (n : Nat) (b : Nat → Bool) : Prop := M.2.1 9 = 1 ∧ 2 ^ n ≤ M.2.2.1 7 ∧ ∀ S, S < 2 ^ n → M.2.2.2.1 7 S = nI (x_rk b S)
/-- all but its ranks is the same -/
def c_f7 (M M' : px_MR) : Prop := (∀ k, k ≠ 7 → M'.1 k = M.1 k) ∧ (∀ k, k ≠ 9 → M'.2.1 k = M.2.1 k) ∧ (∀ k, k ≠ 7 → M'.2.2.1 k = M.2.2.1 k) ∧ (∀ k, k ≠ 7 → M'.2.2.2.1 k = M.2.2.2.1 k) ∧ M'.2.2.2.2 = M.2.2.2.2
theorem c_f7r (M : px_MR) : c_f7 M M := ⟨fun _ _ => rfl, fun _ _ => rfl, fun _ _ => rfl, fun _ _ => rfl, rfl⟩
theorem c_f7t {M M' M'' : px_MR} (h : c_f7 M M') (h' : c_f7 M' M'') : c_f7 M M'' := ⟨fun k hk => (h'.1 k hk).trans (h.1 k hk), fun k hk => (h'.2.1 k hk).trans (h.2.1 k hk), fun k hk => (h'.2.2.1 k hk).trans (h.2.2.1 k hk), fun k hk => (h'.2.2.2.1 k hk).trans (h.2.2.2.1 k hk), h'.2.2.2.2.trans h.2.2.2.2⟩
theorem c_Bf {M M' : px_MR} {n r : Nat} {b : Nat → Bool} (h : c_B M n r b) (hf : c_f7 M M') (hl : M.2.2.1 7 ≤ M'.2.2.1 7) (hl2 : M'.2.2.1 7 < 2 ^ 31) : c_B M' n r b := ⟨by rw [hf.2.1 13 (by decide)]; exact h.1, by rw [hf.2.1 14 (by decide)]; exact h.2.1, h.2.2.1, by rw [hf.2.2.1 6 (by decide)]; exact h.2.2.2.1, by rw [hf.2.2.2.1 6 (by decide)]; exact h.2.2.2.2.1, Nat.le_trans h.2.2.2.2.2.1 hl, hl2⟩
/-- what the ranks still cost: cells, places -/
def c_rc (M : px_MR) (n : Nat) : Nat := if M.2.1 9 = 0 ∧ M.2.2.1 7 < 2 ^ n then 1 else 0
def c_rs (M : px_MR) (n : Nat) : Nat := if M.2.1 9 = 0 ∧ M.2.2.1 7 < 2 ^ n then 2 ^ n else 0
/-- how long the ranks' array is then -/
def c_rl (M : px_MR) (n : Nat) : Nat := if M.2.1 9 = 0 then max (M.2.2.1 7) (2 ^ n) else M.2.2.1 7
/-- the ranks are known now, or were not asked for, of no elements -/
def c_Q (M M' : px_MR) (n : Nat) (b : Nat → Bool) : Prop := (c_R M' n b ∨ (n = 0 ∧ M' = M)) ∧ c_f7 M M' ∧ M'.2.2.1 7 = c_rl M n ∧ (M.2.1 9 = 0 ∨ M' = M)
/-- known, or not -/
def c_K (M : px_MR) (n : Nat) (b : Nat → Bool) : Prop := M.2.1 9 = 0 ∨ c_R M n b
theorem c_rll (M : px_MR) (n : Nat) : M.2.2.1 7 ≤ c_rl M n := by unfold c_rl; split <;> omega
theorem c_rlb {M : px_MR} {n r : Nat} {b : Nat → Bool} (hB : c_B M n r b) : c_rl M n < 2 ^ 31 := by
  have h1 := hB.2.2.2.2.2.2
  have h2 := b_p12 hB.2.2.1.1
  unfold c_rl
  split <;> omega
theorem c_QK {M M' : px_MR} {n : Nat} {b : Nat → Bool} (hK : c_K M n b) (h : c_Q M M' n b) : c_K M' n b := by
  rcases h.1 with h1 | h1
  · exact Or.inr h1
  · rw [h1.2]; exact hK
theorem c_QB {M M' : px_MR} {n r : Nat} {b : Nat → Bool} (hB : c_B M n r b) (h : c_Q M M' n b) : c_B M' n r b := c_Bf hB h.2.1 (by rw [h.2.2.1]; exact c_rll M n) (by rw [h.2.2.1]; exact c_rlb hB)
theorem c_Qc {M M' : px_MR} {n r : Nat} {b : Nat → Bool} (hB : c_B M n r b) (h : c_Q M M' n b) : c_rc M' n = 0 ∧ c_rs M' n = 0 ∧ c_rl M' n = c_rl M n := by
  unfold c_rc c_rs
  rcases h.1 with h1 | ⟨h0, h1⟩
  · have : ¬ M'.2.1 9 = 0 := by rw [h1.1]; decide
    refine ⟨if_neg (fun z => this z.1), if_neg (fun z => this z.1), ?_⟩
    rw [← h.2.2.1]
    unfold c_rl
    rw [if_neg this]
  · have : ¬ M'.2.2.1 7 < 2 ^ n := by
      have := hB.2.2.2.2.2.1
      rw [h1, h0]; show ¬ M.2.2.1 7 < 1; omega
    exact ⟨if_neg (fun z => this z.2), if_neg (fun z => this z.2), by rw [h1]⟩
theorem c_Qr {M : px_MR} {n r : Nat} {b : Nat → Bool} (hB : c_B M n r b) (hK : c_R M n b ∨ n = 0) : c_Q M M n b := by
  have e : M.2.2.1 7 = c_rl M n := by
    unfold c_rl
    rcases hK with h | h
    · rw [if_neg (by rw [h.1]; decide)]
    · have := hB.2.2.2.2.2
      rw [h]
      split
      · show _ = max (M.2.2.1 7) 1; omega
      · rfl
  exact ⟨hK.imp id (fun h => ⟨h, rfl⟩), c_f7r M, e, Or.inr rfl⟩
theorem c_Qt {M M' M'' : px_MR} {n r : Nat} {b : Nat → Bool} (hB : c_B M n r b) (h : c_Q M M' n b) (h' : c_Q M' M'' n b) : c_Q M M'' n b := by
  refine ⟨?_, c_f7t h.2.1 h'.2.1, by rw [h'.2.2.1, (c_Qc hB h).2.2], ?_⟩
  · rcases h'.1 with h1 | ⟨h0, h1⟩
    · exact Or.inl h1
    · rcases h.1 with h2 | ⟨h0, h2⟩
      · rw [h1]; exact Or.inl h2
      · exact Or.inr ⟨h0, by rw [h1, h2]⟩
  · rcases h.2.2.2 with h1 | h1
    · exact Or.inl h1
    · rcases h'.2.2.2 with h2 | h2
      · rw [h1] at h2; exact Or.inl h2
      · exact Or.inr (by rw [h2, h1])
theorem c_rd9 (M : px_MR) (f : Nat → Int32) : (c_rd M f).2.1 9 = 1 := va_up_self M.2.1 9 1
section CRO
variable {a cm np ns : Nat} {pa sa : Nat → Nat} {pp : Nat → px_PR} {ss : Nat → px_SR} {mc ms : Nat} {q_o l_o : Nat} {o_r : Int32} {g_o g_t : Nat → Int32} {mm : Nat → px_MR} {kc ks : Nat} {n r : Nat} {b : Nat → Bool}
theorem c_work {post : Nat → Nat → Int32 → (Nat → Int32) → (Nat → Int32) → (Nat → px_MR) → Prop} (ha : a < cm) (hB : c_B (mm a) n r b) (h0 : (mm a).2.1 9 = 0) (hmc : c_rc (mm a) n ≤ mc) (hms : c_rs (mm a) n ≤ ms)
    (h : ∀ M', c_Q (mm a) M' n b → c_R M' n b → post q_o l_o o_r g_o g_t (va_up mm a M')) : w263_wp a cm np ns pa sa pp ss mc ms post q_o l_o o_r g_o g_t mm := by
  have hn := hB.2.2.1.1
  have hp := b_p12 hn
  unfold w263_wp
  refine ⟨ha, fun z18 e18 => ⟨ha, ha, ?_⟩⟩
  rw [hB.1, b_sh (show n < 31 by omega)] at e18
  subst e18
  refine ⟨fun q => ?_, fun q => ?_⟩
  · have hl : 2 ^ n ≤ (mm a).2.2.1 7 := by
      refine Classical.byContradiction (fun z => ?_)
      have z : (mm a).2.2.1 7 < 2 ^ n := by omega
      rw [nI_leI (show 2 ^ n < 2 ^ 31 by omega) (show (mm a).2.2.1 7 < 2 ^ 31 by omega)] at q
      omega
    have e1 : mm = c_at mm a (mm a) 7 ((mm a).2.2.2.1 7) := by
      show mm = va_up mm a (c_set (mm a) 7 ((mm a).2.2.2.1 7))
      rw [c_self, b_upself]
    have := c_r23 (np := np) (ns := ns) (pa := pa) (sa := sa) (pp := pp) (ss := ss) (mc := mc) (ms := ms) (kc := 0) (ks := 0) (q_o := q_o) (l_o := l_o) (o_r := o_r) (g_o := g_o) (g_t := g_t) (b := b) (post := post) (mm := mm) (M := mm a) ha hn hB.1 hl hB.2.2.2.1 hB.2.2.2.2.1 (fun f hf => h _ ⟨Or.inl ⟨c_rd9 _ _, hl, fun S hS => ?_⟩, ⟨fun _ _ => rfl, fun k hk => va_up_ne _ _ hk, fun _ _ => rfl, fun k hk => va_up_ne _ _ hk, rfl⟩, ?_, Or.inl h0⟩ ⟨c_rd9 _ _, hl, fun S hS => ?_⟩) ((mm a).2.2.2.1 7)
    · rw [← e1] at this; exact this
    · show (va_up (mm a).2.2.2.1 7 f) 7 S = _
      rw [va_up_self, hf S hS, x_rkmu hB.2.2.1 hS]
    · unfold c_rl
      rw [if_pos h0]
      show (mm a).2.2.1 7 = _
      omega
    · show (va_up (mm a).2.2.2.1 7 f) 7 S = _
      rw [va_up_self, hf S hS, x_rkmu hB.2.2.1 hS]
  · have hl : (mm a).2.2.1 7 < 2 ^ n := by
      refine Classical.byContradiction (fun z => q ?_)
      have z : 2 ^ n ≤ (mm a).2.2.1 7 := by omega
      exact nI_le z (hB.2.2.2.2.2.2)
    unfold c_rc at hmc
    unfold c_rs at hms
    rw [if_pos ⟨h0, hl⟩] at hmc hms
    rw [nI_clamp (show 2 ^ n < 2 ^ 31 by omega)]
    refine ⟨nI_pos (by omega), by omega, by omega, by omega, fun q18 => ⟨ha, fun mm20 e20 => ?_⟩⟩
    have e1 : mm20 = c_at mm a (c_new (mm a) 7 q18 (2 ^ n)) 7 (fun _ => 0) := by
      rw [e20]
      show va_up mm a (c_new (mm a) 7 q18 (2 ^ n)) = va_up mm a (c_set (c_new (mm a) 7 q18 (2 ^ n)) 7 (fun _ => 0))
      have : c_set (c_new (mm a) 7 q18 (2 ^ n)) 7 (fun _ => 0) = c_new (mm a) 7 q18 (2 ^ n) := by
        unfold c_set c_new
        simp only [b_upup]
      rw [this]
    rw [e1]
    refine c_r23 (b := b) (mm := mm) (M := c_new (mm a) 7 q18 (2 ^ n)) ha hn hB.1 (by show 2 ^ n ≤ va_up (mm a).2.2.1 7 (2 ^ n) 7; rw [va_up_self]; exact Nat.le_refl _) (by show 2 ^ n ≤ va_up (mm a).2.2.1 7 (2 ^ n) 6; rw [va_up_ne _ _ (by decide)]; exact hB.2.2.2.1) (by show ∀ S, S < 2 ^ n → (b S = true ↔ ¬ va_up (mm a).2.2.2.1 7 (fun _ => 0) 6 S = 0); rw [va_up_ne _ _ (by decide)]; exact hB.2.2.2.2.1) (fun f hf => ?_) _
    have hR : c_R (c_rd (c_new (mm a) 7 q18 (2 ^ n)) f) n b := ⟨c_rd9 _ _, by show 2 ^ n ≤ va_up (mm a).2.2.1 7 (2 ^ n) 7; rw [va_up_self]; exact Nat.le_refl _, fun S hS => by
      show (va_up (va_up (mm a).2.2.2.1 7 (fun _ => 0)) 7 f) 7 S = _
      rw [va_up_self, hf S hS, x_rkmu hB.2.2.1 hS]⟩
    refine h _ ⟨Or.inl hR, ⟨fun k hk => va_up_ne _ _ hk, fun k hk => va_up_ne _ _ hk, fun k hk => va_up_ne _ _ hk, fun k hk => by show (va_up (va_up (mm a).2.2.2.1 7 (fun _ => 0)) 7 f) k = _; rw [va_up_ne _ _ hk, va_up_ne _ _ hk], rfl⟩, ?_, Or.inl h0⟩ hR
    unfold c_rl
    rw [if_pos h0]
    show va_up (mm a).2.2.1 7 (2 ^ n) 7 = _
    rw [va_up_self]; omega
/-- rankOf -/
theorem c_rankOf {post : Int32 → Nat → Nat → Int32 → (Nat → Int32) → (Nat → Int32) → (Nat → px_MR) → Prop} {S : Nat} (ha : a < cm) (hB : c_B (mm a) n r b) (hK : c_K (mm a) n b) (hS : S < 2 ^ n) (hmc : c_rc (mm a) n ≤ mc) (hms : c_rs (mm a) n ≤ ms)
    (h : ∀ M', c_Q (mm a) M' n b → c_R M' n b → post (nI (x_rk b S)) q_o l_o o_r g_o g_t (va_up mm a M')) : w262_wp a cm np ns pa sa pp ss mc ms post (nI S) q_o l_o o_r g_o g_t mm := by
  have hn := hB.2.2.1.1
  have hp := b_p12 hn
  have fin : ∀ (mm' : Nat → px_MR) (k1 k2 : Nat) , c_R (mm' a) n b → post (nI (x_rk b S)) q_o l_o o_r g_o g_t mm' → w262_L11 a cm np ns pa sa pp ss mc ms post (nI S) q_o l_o o_r g_o g_t mm' k1 k2 := by
    intro mm' k1 k2 hR hp'
    unfold w262_L11
    rw [nI_clamp (show S < 2 ^ 31 by omega), hR.2.2 S hS]
    exact ⟨ha, ha, b_in (by have := hR.2.1; omega) (by omega), hp'⟩
  unfold w262_wp
  refine ⟨ha, fun q => ?_, fun q => ?_⟩
  · have hR := hK.resolve_left q
    refine fin mm 0 0 hR ?_
    have := h (mm a) (c_Qr hB (Or.inl hR)) hR
    rw [b_upself] at this
    exact this
  · refine ⟨mc, ms, by omega, by omega, ha, c_work ha hB q hmc hms (fun M' h1 h2 => fin _ _ _ ?_ (h M' h1 h2))⟩
    rw [va_up_self]; exact h2
end CRO
