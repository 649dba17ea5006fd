/-! PURE, the reference: numbers and letters told, reasons -/
/-- the reference stands at the token behind i -/
def r_tat (iv b : Nat → Int32) (L i : Nat) : Prop := iv 37 = nI L ∧ iv 38 = t_k b L i ∧ iv 39 = nI (t_j b L i) ∧ iv 40 = nI (t_e b L i)
/-- ints that making and reading leave alone -/
def r_Eq (iv iv' : Nat → Int32) : Prop := ∀ q, q ≠ 10 → q ≠ 11 → q ≠ 12 → q ≠ 38 → q ≠ 39 → q ≠ 40 → q ≠ 43 → iv' q = iv q
theorem r_EqR {iv : Nat → Int32} : r_Eq iv iv := fun _ _ _ _ _ _ _ _ => rfl
theorem r_EqT {iv iv' iv'' : Nat → Int32} (h : r_Eq iv iv') (h' : r_Eq iv' iv'') : r_Eq iv iv'' := fun q a1 a2 a3 a4 a5 a6 a7 => by rw [h' q a1 a2 a3 a4 a5 a6 a7, h q a1 a2 a3 a4 a5 a6 a7]
theorem t_d9 {c : Int32} (h : t_dig c = true) : ∃ d, d ≤ 9 ∧ c = nI (48 + d) := by
  unfold t_dig at h
  have h := of_decide_eq_true h
  obtain ⟨n, hn, e⟩ := nI_of (x := c) (fun z => h.1 (Int32.lt_trans z (by decide)))
  subst e
  have h1 : 48 ≤ n := Classical.byContradiction (fun z => h.1 (show nI n < nI 48 from nI_lt (by omega) (by decide)))
  have h2 : n ≤ 57 := Classical.byContradiction (fun z => h.2 (show nI 57 < nI n from nI_lt (by omega) hn))
  exact ⟨n - 48, by omega, by rw [show 48 + (n - 48) = n by omega]⟩
theorem t_nvs {b : Nat → Int32} {s : Nat} : ∀ n, n ≤ 3 → (∀ k, k < n → t_dig (b (s + k)) = true) → ∃ a, a < 10 ^ n ∧ t_nv b s n = nI a
  | 0, _, _ => ⟨0, by decide, rfl⟩
  | n + 1, hn, h => by
    obtain ⟨a, ha, ea⟩ := t_nvs n (by omega) (fun k hk => h k (by omega))
    obtain ⟨d, hd, ed⟩ := t_d9 (h n (by omega))
    refine ⟨10 * a + d, ?_, ?_⟩
    · rw [Nat.pow_succ]; omega
    · show 10 * t_nv b s n + b (s + n) - 48 = _
      rw [ea, ed, show (10 : Int32) = nI 10 from rfl, show (48 : Int32) = nI 48 from rfl, pk_mul, nI_add, nI_subn (by omega), show 10 * a + (48 + d) - 48 = 10 * a + d by omega]
theorem t_k2 {b : Nat → Int32} {L i : Nat} (h : t_k b L i = 2) : t_j b L i < L ∧ (b (t_j b L i) = 45 ∨ t_dig (b (t_j b L i)) = true) ∧ 1 ≤ t_e b L i - t_s b L i ∧ t_e b L i - t_s b L i ≤ 3 ∧ t_e b L i = t_run t_dig b (L - t_s b L i) (t_s b L i) := by
  have h2 := h
  unfold t_k at h2
  by_cases q1 : L ≤ t_j b L i
  · rw [if_pos q1] at h2; exact absurd h2 (by decide)
  · rw [if_neg q1] at h2
    by_cases q2 : t_let (b (t_j b L i)) = true
    · rw [if_pos q2] at h2; exact absurd h2 (by decide)
    · rw [if_neg q2] at h2
      by_cases q3 : b (t_j b L i) = 45 ∨ t_dig (b (t_j b L i)) = true
      · rw [if_pos q3] at h2
        have e : t_e b L i = t_run t_dig b (L - t_s b L i) (t_s b L i) := by
          have : t_e b L i = if L ≤ t_j b L i then t_j b L i else if t_let (b (t_j b L i)) = true then t_run t_let b (L - (t_j b L i + 1)) (t_j b L i + 1) else if b (t_j b L i) = 45 ∨ t_dig (b (t_j b L i)) = true then t_run t_dig b (L - t_s b L i) (t_s b L i) else t_j b L i + 1 := rfl
          rw [this, if_neg q1, if_neg q2, if_pos q3]
        by_cases q4 : 1 ≤ t_e b L i - t_s b L i ∧ t_e b L i - t_s b L i ≤ 3
        · exact ⟨by omega, q3, q4.1, q4.2, e⟩
        · rw [if_neg q4] at h2; exact absurd h2 (by decide)
      · rw [if_neg q3] at h2
        by_cases q4 : t_mk (b (t_j b L i)) = true
        · rw [if_pos q4] at h2
          rw [h2] at q4; exact absurd q4 (by decide)
        · rw [if_neg q4] at h2; exact absurd h2 (by decide)
theorem t_dgs {b : Nat → Int32} {L i : Nat} (h : t_k b L i = 2) {x : Nat} (h1 : t_s b L i ≤ x) (h2 : x < t_e b L i) : t_dig (b x) = true := by
  rw [(t_k2 h).2.2.2.2] at h2
  exact t_runp t_dig b _ _ x h1 h2
/-- a number's value is small -/
theorem t_v3 {b : Nat → Int32} {L i : Nat} (h : t_k b L i = 2) : ∃ a, a < 1000 ∧ (t_v b L i = nI a ∨ t_v b L i = - nI a) := by
  obtain ⟨k1, k2, k3, k4, k5⟩ := t_k2 h
  obtain ⟨a, ha, ea⟩ := t_nvs (b := b) (s := t_s b L i) (t_e b L i - t_s b L i) k4 (fun k hk => t_dgs h (by omega) (by omega))
  have hb : 10 ^ (t_e b L i - t_s b L i) ≤ 10 ^ 3 := Nat.pow_le_pow_right (by decide) k4
  refine ⟨a, by omega, ?_⟩
  unfold t_v
  rw [ea]
  split
  · exact Or.inr rfl
  · exact Or.inl rfl
theorem b_v64 : ∀ a, a < 1000 → (nI a).toInt64 = iL (a : Int) ∧ (- nI a).toInt64 = iL (-(a : Int)) ∧ (nI a).toInt = (a : Int) ∧ (- nI a).toInt = -(a : Int) := by decide +kernel
theorem t_vI {b : Nat → Int32} {L i : Nat} (h : t_k b L i = 2) : (t_v b L i).toInt64 = iL (t_v b L i).toInt ∧ -999 ≤ (t_v b L i).toInt ∧ (t_v b L i).toInt ≤ 999 := by
  obtain ⟨a, ha, e⟩ := t_v3 h
  obtain ⟨b1, b2, b3, b4⟩ := b_v64 a ha
  rcases e with e | e
  · rw [e, b1, b3]; exact ⟨rfl, by omega, by omega⟩
  · rw [e, b2, b4]; exact ⟨rfl, by omega, by omega⟩
section RVL
variable {b iv : Nat → Int32} {L i : Nat}
theorem r_value {post : Int32 → (Nat → Int32) → (Nat → Int32) → Prop} (hL : L ≤ 16384) (hi : i ≤ L) (hk : t_k b L i = 2) (ht : r_tat iv b L i) (h : post (t_v b L i) iv b) : mva_wp post iv b := by
  obtain ⟨h37, h38, h39, h40⟩ := ht
  obtain ⟨k1, k2, k3, k4, k5⟩ := t_k2 hk
  have hel := t_el (b := b) hi
  have hsl := t_sl (b := b) (L := L) (i := i)
  have digs : ∀ (u x : Nat), x + u = t_e b L i → t_s b L i ≤ x → mva_L7 post (u + 1) (t_nv b (t_s b L i) (x - t_s b L i)) (nI x) iv b := by
    intro u
    induction u with
    | zero =>
      intro x hx hs
      have : x = t_e b L i := by omega
      subst this
      unfold mva_L7 mva_L72
      rw [h40, h39, nI_clamp (show t_j b L i < 2 ^ 31 by omega)]
      refine ⟨fun _ => ⟨b_in (by omega) (by omega), fun w => ?_, fun w => ?_⟩, fun w => absurd (nI_le (Nat.le_refl _) (by omega)) w⟩
      · unfold t_v at h; rw [if_neg w] at h; exact h
      · unfold t_v at h; rw [if_pos w] at h; exact h
    | succ u ih =>
      intro x hx hs
      have hd := t_dgs hk hs (show x < t_e b L i by omega)
      unfold mva_L7 mva_L45
      rw [h40, nI_clamp (show x < 2 ^ 31 by omega)]
      refine ⟨fun w => absurd w (nI_ge (by omega) (by omega)), fun _ => ⟨b_in (by omega) (by omega), r_dig ?_⟩⟩
      rw [if_pos hd]
      refine ⟨fun w => t_10 w, fun _ => ⟨b_in (by omega) (by omega), fun z e => ?_⟩⟩
      rw [e, nI_1]
      have := ih (x + 1) (by omega) (by omega)
      rw [show x + 1 - t_s b L i = (x - t_s b L i) + 1 by omega] at this
      have e2 : t_nv b (t_s b L i) (x - t_s b L i + 1) = 10 * t_nv b (t_s b L i) (x - t_s b L i) + b x - 48 := by
        show 10 * t_nv b (t_s b L i) (x - t_s b L i) + b (t_s b L i + (x - t_s b L i)) - 48 = _
        rw [show t_s b L i + (x - t_s b L i) = x by omega]
      rw [e2] at this
      exact this
  intro z2 e2
  rw [h39] at e2
  rw [e2]
  by_cases q : b (t_j b L i) = 45
  · have hs : t_s b L i = t_j b L i + 1 := by unfold t_s; rw [if_pos q]
    refine ⟨t_e b L i - t_s b L i + 1 + 1, ?_⟩
    unfold mva_L7 mva_L45
    rw [h40, nI_clamp (show t_j b L i < 2 ^ 31 by omega)]
    refine ⟨fun w => absurd w (nI_ge (by omega) (by omega)), fun _ => ⟨b_in (by omega) (by omega), r_dig ?_⟩⟩
    rw [q, if_neg (by decide)]
    refine ⟨fun _ z e => ?_, fun w => absurd rfl w⟩
    rw [e, nI_1, ← hs]
    have := digs (t_e b L i - t_s b L i) (t_s b L i) (by omega) (Nat.le_refl _)
    rw [Nat.sub_self] at this
    exact this
  · have hs : t_s b L i = t_j b L i := by unfold t_s; rw [if_neg q]
    have := digs (t_e b L i - t_s b L i) (t_s b L i) (by omega) (Nat.le_refl _)
    rw [Nat.sub_self] at this
    rw [← hs]
    exact ⟨_, this⟩
theorem r_nxt {post : (Nat → Int32) → (Nat → Int32) → Prop} (hL : L ≤ 16384) (hi : i ≤ L) (ht : r_tat iv b L i) (h : ∀ iv', r_tat iv' b L (t_e b L i) → (∀ q, q ≠ 38 → q ≠ 39 → q ≠ 40 → iv' q = iv q) → post iv' b) : mnx_wp post iv b := by
  obtain ⟨h37, h38, h39, h40⟩ := ht
  refine r_next hL h37 h40 (t_el hi).2.1 (h _ ⟨?_, ?_, ?_, ?_⟩ (fun q q1 q2 q3 => ?_))
  · exact h37
  · rfl
  · rfl
  · rfl
  · unfold r_tk; rw [if_neg q1, if_neg q2, if_neg q3]
theorem r_told {post : Int32 → (Nat → Int32) → (Nat → Int32) → Prop} (hL : L ≤ 16384) (hi : i ≤ L) (hk : t_k b L i = 2) (ht : r_tat iv b L i) (h : ∀ iv', r_tat iv' b L (t_e b L i) → (∀ q, q ≠ 38 → q ≠ 39 → q ≠ 40 → iv' q = iv q) → post (t_v b L i) iv' b) : mtd_wp post iv b := r_value hL hi hk ht (r_nxt hL hi ht h)
theorem r_letter {post : Int32 → (Nat → Int32) → (Nat → Int32) → Prop} (hL : L ≤ 16384) (hi : i ≤ L) (hj : t_j b L i < L) (ht : r_tat iv b L i) (h : ∀ iv', r_tat iv' b L (t_e b L i) → (∀ q, q ≠ 38 → q ≠ 39 → q ≠ 40 → iv' q = iv q) → post (b (t_j b L i) - 97) iv' b) : mle_wp post iv b := by
  unfold mle_wp
  rw [ht.2.2.1, nI_clamp (show t_j b L i < 2 ^ 31 by omega)]
  exact ⟨b_in (by omega) (by omega), fun z e => by rw [e]; exact r_nxt hL hi ht h⟩
theorem r_may {post : Int32 → (Nat → Int32) → Prop} {bx why : Int32} (h0 : iv 43 = 0) (hw : ¬ why = 0) (h1 : ¬ bx = 0 → post 1 iv) (h2 : bx = 0 → post 0 (va_up iv 43 why)) : mma_wp post bx why iv := by
  unfold mma_wp mma_L16 mma_L28
  refine ⟨fun w => absurd h0 w, fun _ => ⟨fun w => ⟨fun w' => absurd h0 w', fun _ => ⟨rfl, h1 w⟩⟩, fun w => ?_⟩⟩
  rw [va_up_self]
  exact ⟨fun _ => ⟨rfl, h2 w⟩, fun w' => absurd w' hw⟩
end RVL
