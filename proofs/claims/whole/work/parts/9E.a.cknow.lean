/-! PURE, the class: what is known of a matroid stays known; what it cost -/
def c_p2 (l : Nat) : Prop := ∃ j, l = 2 ^ j
theorem c_p2d {a b : Nat} (ha : c_p2 a) (hb : c_p2 b) (h : a < b) : 2 * a ≤ b := by
  obtain ⟨i, rfl⟩ := ha
  obtain ⟨j, rfl⟩ := hb
  have hij : i < j := (Nat.pow_lt_pow_iff_right (by decide : 1 < 2)).1 h
  have : 2 ^ (i + 1) ≤ 2 ^ j := Nat.pow_le_pow_right (by decide) hij
  rw [Nat.pow_succ] at this
  omega
/-- all that is known is right -/
def c_kn (M : px_MR) (n r : Nat) (b : Nat → Bool) : Prop := c_B M n r b ∧ c_K M n b ∧ (∀ k, k < 4 → c_LK M b n r k) ∧ (M.2.2.1 8 = 0 ∨ M.2.2.1 8 = 169) ∧ (M.2.1 10 = 0 ∨ c_P M n r b) ∧ M.2.2.1 6 ≤ 4096 ∧ M.2.2.1 7 ≤ 4096 ∧ c_p2 (M.2.2.1 6) ∧ c_p2 (M.2.2.1 7) ∧ 16 ≤ M.2.2.1 6
/-- asking leaves alone -/
def c_fr (M M' : px_MR) : Prop := (∀ k, k ≠ 9 → k ≠ 10 → M'.2.1 k = M.2.1 k) ∧ M'.2.2.1 6 = M.2.2.1 6 ∧ (∀ k, k = 2 ∨ k = 3 ∨ k = 6 → M'.2.2.2.1 k = M.2.2.2.1 k) ∧ M'.2.2.2.2.2 = M.2.2.2.2.2
theorem c_frr (M : px_MR) : c_fr M M := ⟨fun _ _ _ => rfl, rfl, fun _ _ => rfl, rfl⟩
theorem c_frt {M M' M'' : px_MR} (h : c_fr M M') (h' : c_fr M' M'') : c_fr M M'' := ⟨fun k a b => (h'.1 k a b).trans (h.1 k a b), h'.2.1.trans h.2.1, fun k a => (h'.2.2.1 k a).trans (h.2.2.1 k a), h'.2.2.2.trans h.2.2.2⟩
/-- the lengths of a matroid's arrays -/
def c_len (M : px_MR) : Nat := M.2.2.1 6 + M.2.2.1 7 + M.2.2.1 8 + M.2.2.1 20 + M.2.2.1 21 + M.2.2.1 22 + M.2.2.1 23
theorem c_frf7 {M M' : px_MR} (h : c_f7 M M') : c_fr M M' := ⟨fun k a _ => h.2.1 k a, h.2.2.1 6 (by decide), fun k a => h.2.2.2.1 k (by omega), by rw [h.2.2.2.2]⟩
section CKN
variable {M M' : px_MR} {n r : Nat} {b : Nat → Bool}
theorem c_knn (h : c_kn M n r b) : n ≤ 12 ∧ 2 ^ n ≤ 4096 := by
  have hn := h.1.2.2.1.1
  exact ⟨hn, Nat.pow_le_pow_right (by decide) hn⟩
/-- ranks asked for -/
theorem c_Qk (h : c_kn M n r b) (hQ : c_Q M M' n b) : c_kn M' n r b ∧ c_fr M M' ∧ 8 * c_rc M n + 2 * c_len M ≤ 2 * c_len M' ∧ c_rs M n + 2 * c_len M ≤ 2 * c_len M' ∧ c_rc M' n = 0 ∧ c_rs M' n = 0 := by
  obtain ⟨k1, k2, k3, k4, k5, k6, k7, k8, k9, k10⟩ := id h
  obtain ⟨q1, q2, q3, q4⟩ := id hQ
  have hn := c_knn h
  have h16 := k1.2.2.2.2.2.1
  have hl7 : M.2.2.1 7 ≤ M'.2.2.1 7 ∧ M'.2.2.1 7 ≤ 4096 ∧ c_p2 (M'.2.2.1 7) := by
    rw [q3]
    unfold c_rl
    by_cases w : M.2.1 9 = 0
    · rw [if_pos w]
      refine ⟨Nat.le_max_left _ _, Nat.max_le.2 ⟨k7, hn.2⟩, ?_⟩
      rcases Nat.le_total (M.2.2.1 7) (2 ^ n) with z | z
      · rw [Nat.max_eq_right z]; exact ⟨n, rfl⟩
      · rw [Nat.max_eq_left z]; exact k9
    · rw [if_neg w]; exact ⟨Nat.le_refl _, k7, k9⟩
  have hB' := c_Bf k1 q2 hl7.1 (by omega)
  have hK' : c_K M' n b := by
    rcases q1 with w | w
    · exact Or.inr w
    · rw [w.2]; exact k2
  have f := c_frf7 q2
  have e20 : ∀ k, 20 ≤ k → M'.2.2.1 k = M.2.2.1 k := fun k hk => q2.2.2.1 k (by omega)
  have e8 : M'.2.2.1 8 = M.2.2.1 8 := q2.2.2.1 8 (by decide)
  have e6 : M'.2.2.1 6 = M.2.2.1 6 := q2.2.2.1 6 (by decide)
  have hrc : c_rc M' n = 0 ∧ c_rs M' n = 0 := by
    have hno : ¬ (M'.2.1 9 = 0 ∧ M'.2.2.1 7 < 2 ^ n) := fun w => by
      rcases q1 with z | z
      · rw [z.1] at w; exact absurd w.1 (by decide)
      · have := w.2
        rw [z.1] at this
        have : (2 : Nat) ^ 0 = 1 := rfl
        omega
    unfold c_rc c_rs
    rw [if_neg hno, if_neg hno]; exact ⟨rfl, rfl⟩
  have hcost : 8 * c_rc M n + 2 * c_len M ≤ 2 * c_len M' ∧ c_rs M n + 2 * c_len M ≤ 2 * c_len M' := by
    have hlen : c_len M' + M.2.2.1 7 = c_len M + M'.2.2.1 7 := by
      unfold c_len
      rw [e6, e8, e20 20 (by omega), e20 21 (by omega), e20 22 (by omega), e20 23 (by omega)]
      omega
    unfold c_rc c_rs
    by_cases w : M.2.1 9 = 0 ∧ M.2.2.1 7 < 2 ^ n
    · rw [if_pos w, if_pos w]
      have : M'.2.2.1 7 = 2 ^ n := by
        rw [q3]; unfold c_rl; rw [if_pos w.1, Nat.max_eq_right (by omega)]
      have := c_p2d k9 ⟨n, rfl⟩ w.2
      omega
    · rw [if_neg w, if_neg w]
      omega
  refine ⟨⟨hB', hK', fun k hk => ?_, by rw [e8]; exact k4, ?_, by rw [e6]; exact k6, hl7.2.1, by rw [e6]; exact k8, hl7.2.2, by rw [e6]; exact k10⟩, f, hcost.1, hcost.2, hrc.1, hrc.2⟩
  · obtain ⟨a1, a2, a3⟩ := k3 k hk
    unfold c_LK
    rw [e20 (20 + k) (by omega), q2.2.2.2.1 5 (by decide), q2.2.2.2.1 (20 + k) (by omega)]
    exact ⟨a1, a2, a3⟩
  · rw [q2.2.1 10 (by decide)]
    unfold c_P
    rw [q2.2.1 10 (by decide), e8, q2.2.2.2.2]
    exact k5
theorem c_Zk (h : c_kn M n r b) (hZ : c_Z M M' n b) : c_kn M' n r b ∧ c_fr M M' := by
  rcases hZ with w | w
  · rw [w]; exact ⟨h, c_frr M⟩
  · have := c_Qk h w
    exact ⟨this.1, this.2.1⟩
/-- a list asked for -/
theorem c_Lk {k : Nat} (h : c_kn M n r b) (hk : k < 4) (hf : c_f720 M M' k) (hK : c_K M' n b) (hB : c_B M' n r b) (hl : M'.2.2.1 (20 + k) = c_ll M b n r k) (h7 : M'.2.2.1 7 = (if M.2.2.2.1 5 k = -1 then c_rl M n else M.2.2.1 7)) (hR : M.2.2.2.1 5 k = -1 → c_R M' n b) (hs : ¬ M.2.2.2.1 5 k = -1 → M' = M) (h5 : M'.2.2.2.1 5 k = nI (x_fam b n r k).length) (hle : (x_fam b n r k).length ≤ M'.2.2.1 (20 + k)) (hx : ∀ j x, (x_fam b n r k)[j]? = some x → M'.2.2.2.1 (20 + k) j = nI x) (hb : c_ll M b n r k ≤ 4096) :
    c_kn M' n r b ∧ c_fr M M' ∧ (¬ M.2.2.2.1 5 k = -1 → M' = M) ∧ (M.2.2.2.1 5 k = -1 → 8 * (c_rc M n + ((c_ll M b n r k - M.2.2.1 (20 + k)) / 16 + (if c_ll M b n r k = M.2.2.1 (20 + k) then 0 else 1))) + 2 * c_len M ≤ 2 * c_len M' ∧ c_rs M n + 2 * (c_ll M b n r k - M.2.2.1 (20 + k)) + 2 * c_len M ≤ 2 * c_len M') := by
  obtain ⟨k1, k2, k3, k4, k5, k6, k7, k8, k9, k10⟩ := id h
  have hn := c_knn h
  by_cases w : M.2.2.2.1 5 k = -1
  · rw [if_pos w] at h7
    have hR := hR w
    obtain ⟨f1, f2, f3, f4, f5, f6⟩ := id hf
    have hle20 : M.2.2.1 (20 + k) ≤ c_ll M b n r k := by
      unfold c_ll; rw [if_pos w]; exact x_grle 4 _ _
    have hl7 : M.2.2.1 7 ≤ M'.2.2.1 7 ∧ M'.2.2.1 7 ≤ 4096 ∧ c_p2 (M'.2.2.1 7) := by
      rw [h7]
      unfold c_rl
      by_cases w : M.2.1 9 = 0
      · rw [if_pos w]
        refine ⟨Nat.le_max_left _ _, Nat.max_le.2 ⟨k7, hn.2⟩, ?_⟩
        rcases Nat.le_total (M.2.2.1 7) (2 ^ n) with z | z
        · rw [Nat.max_eq_right z]; exact ⟨n, rfl⟩
        · rw [Nat.max_eq_left z]; exact k9
      · rw [if_neg w]; exact ⟨Nat.le_refl _, k7, k9⟩
    have e6 : M'.2.2.1 6 = M.2.2.1 6 := f3 6 (by decide) (by omega)
    have e8 : M'.2.2.1 8 = M.2.2.1 8 := f3 8 (by decide) (by omega)
    have e20 : ∀ j, j < 4 → j ≠ k → M'.2.2.1 (20 + j) = M.2.2.1 (20 + j) := fun j _ hj => f3 (20 + j) (by omega) (by omega)
    refine ⟨⟨hB, hK, fun j hj => ?_, by rw [e8]; exact k4, ?_, by rw [e6]; exact k6, hl7.2.1, by rw [e6]; exact k8, hl7.2.2, by rw [e6]; exact k10⟩, ⟨fun j a _ => f2 j a, e6, fun j hj => f4 j (by omega) (by omega) (by omega), by rw [f6]⟩, fun z => absurd w z, fun _ => ?_⟩
    · by_cases z : j = k
      · subst z
        obtain ⟨a1, a2, a3⟩ := k3 j hj
        refine ⟨by rw [hl]; omega, by rw [hl]; exact hb, Or.inr ⟨h5, hle, hx⟩⟩
      · obtain ⟨a1, a2, a3⟩ := k3 j hj
        unfold c_LK
        rw [e20 j hj z, f5 j z, f4 (20 + j) (by omega) (by omega) (by omega)]
        exact ⟨a1, a2, a3⟩
    · rw [f2 10 (by decide)]
      unfold c_P
      rw [f2 10 (by decide), e8, f6]
      exact k5
    · have hlen : c_len M' + M.2.2.1 7 + M.2.2.1 (20 + k) = c_len M + M'.2.2.1 7 + M'.2.2.1 (20 + k) := by
        unfold c_len
        rw [e6, e8]
        rcases (show k = 0 ∨ k = 1 ∨ k = 2 ∨ k = 3 by omega) with z | z | z | z
        · subst z
          have a1 : M'.2.2.1 21 = M.2.2.1 21 := e20 1 (by omega) (by omega)
          have a2 : M'.2.2.1 22 = M.2.2.1 22 := e20 2 (by omega) (by omega)
          have a3 : M'.2.2.1 23 = M.2.2.1 23 := e20 3 (by omega) (by omega)
          simp only [Nat.reduceAdd]
          omega
        · subst z
          have a0 : M'.2.2.1 20 = M.2.2.1 20 := e20 0 (by omega) (by omega)
          have a2 : M'.2.2.1 22 = M.2.2.1 22 := e20 2 (by omega) (by omega)
          have a3 : M'.2.2.1 23 = M.2.2.1 23 := e20 3 (by omega) (by omega)
          simp only [Nat.reduceAdd]
          omega
        · subst z
          have a0 : M'.2.2.1 20 = M.2.2.1 20 := e20 0 (by omega) (by omega)
          have a1 : M'.2.2.1 21 = M.2.2.1 21 := e20 1 (by omega) (by omega)
          have a3 : M'.2.2.1 23 = M.2.2.1 23 := e20 3 (by omega) (by omega)
          simp only [Nat.reduceAdd]
          omega
        · subst z
          have a0 : M'.2.2.1 20 = M.2.2.1 20 := e20 0 (by omega) (by omega)
          have a1 : M'.2.2.1 21 = M.2.2.1 21 := e20 1 (by omega) (by omega)
          have a2 : M'.2.2.1 22 = M.2.2.1 22 := e20 2 (by omega) (by omega)
          simp only [Nat.reduceAdd]
          omega
      have hrk : 8 * c_rc M n + 2 * M.2.2.1 7 ≤ 2 * M'.2.2.1 7 ∧ c_rs M n + 2 * M.2.2.1 7 ≤ 2 * M'.2.2.1 7 := by
        have h16 := k1.2.2.2.2.2.1
        unfold c_rc c_rs
        by_cases w : M.2.1 9 = 0 ∧ M.2.2.1 7 < 2 ^ n
        · rw [if_pos w, if_pos w]
          have : M'.2.2.1 7 = 2 ^ n := by
            rw [h7]; unfold c_rl; rw [if_pos w.1, Nat.max_eq_right (by omega)]
          have := c_p2d k9 ⟨n, rfl⟩ w.2
          omega
        · rw [if_neg w, if_neg w]
          omega
      by_cases z : c_ll M b n r k = M.2.2.1 (20 + k)
      · rw [if_pos z, z, Nat.sub_self]
        rw [hl, z] at hlen
        omega
      · rw [if_neg z]
        have h4 : 4 * M.2.2.1 (20 + k) ≤ c_ll M b n r k := by
          have e : c_ll M b n r k = x_gr 4 (M.2.2.1 (20 + k)) (x_fam b n r k).length := by unfold c_ll; rw [if_pos w]
          rw [e]
          have e2 : x_gr 4 (M.2.2.1 (20 + k)) (x_fam b n r k).length = if (x_fam b n r k).length ≤ M.2.2.1 (20 + k) then M.2.2.1 (20 + k) else x_gr 3 (4 * M.2.2.1 (20 + k)) (x_fam b n r k).length := rfl
          by_cases y : (x_fam b n r k).length ≤ M.2.2.1 (20 + k)
          · rw [e, e2, if_pos y] at z; exact absurd rfl z
          · rw [e2, if_neg y]; exact x_grle 3 _ _
        have h16 := (k3 k hk).1
        rw [hl] at hlen
        omega
  · have e := hs w
    rw [e]
    exact ⟨h, c_frr M, fun _ => rfl, fun z => absurd z w⟩
/-- the polynomial asked for -/
theorem c_Pk (h : c_kn M n r b) (hf : c_f78 M M') (hK : c_K M' n b) (hB : c_B M' n r b) (hP : c_P M' n r b) (h0 : M.2.1 10 = 0 → c_R M' n b ∧ M'.2.2.1 7 = c_rl M n) (hs : ¬ M.2.1 10 = 0 → M' = M) : c_kn M' n r b ∧ c_fr M M' ∧ 8 * c_pc M n + 2 * c_len M ≤ 2 * c_len M' ∧ c_ps M n + 2 * c_len M ≤ 2 * c_len M' ∧ c_pc M' n = 0 ∧ c_ps M' n = 0 := by
  obtain ⟨k1, k2, k3, k4, k5, k6, k7, k8, k9, k10⟩ := id h
  have hn := c_knn h
  have hz : c_pc M' n = 0 ∧ c_ps M' n = 0 := by
    unfold c_pc c_ps
    rw [hP.1, if_neg (by decide), if_neg (by decide)]; exact ⟨rfl, rfl⟩
  by_cases w : M.2.1 10 = 0
  · obtain ⟨hR, h7⟩ := h0 w
    obtain ⟨f1, f2, f3, f4, f5⟩ := id hf
    have hl7 : M.2.2.1 7 ≤ M'.2.2.1 7 ∧ M'.2.2.1 7 ≤ 4096 ∧ c_p2 (M'.2.2.1 7) := by
      rw [h7]
      unfold c_rl
      by_cases w : M.2.1 9 = 0
      · rw [if_pos w]
        refine ⟨Nat.le_max_left _ _, Nat.max_le.2 ⟨k7, hn.2⟩, ?_⟩
        rcases Nat.le_total (M.2.2.1 7) (2 ^ n) with z | z
        · rw [Nat.max_eq_right z]; exact ⟨n, rfl⟩
        · rw [Nat.max_eq_left z]; exact k9
      · rw [if_neg w]; exact ⟨Nat.le_refl _, k7, k9⟩
    have e6 : M'.2.2.1 6 = M.2.2.1 6 := f3 6 (by decide) (by decide)
    have e20 : ∀ j, 20 ≤ j → M'.2.2.1 j = M.2.2.1 j := fun j hj => f3 j (by omega) (by omega)
    refine ⟨⟨hB, hK, fun j hj => ?_, Or.inr hP.2.1, Or.inr hP, by rw [e6]; exact k6, hl7.2.1, by rw [e6]; exact k8, hl7.2.2, by rw [e6]; exact k10⟩, ⟨fun j a b => f2 j a b, e6, fun j hj => f4 j (by omega), f5⟩, ?_⟩
    · obtain ⟨a1, a2, a3⟩ := k3 j hj
      unfold c_LK
      rw [e20 (20 + j) (by omega), f4 5 (by decide), f4 (20 + j) (by omega)]
      exact ⟨a1, a2, a3⟩
    · have hlen : c_len M' + M.2.2.1 7 + M.2.2.1 8 = c_len M + M'.2.2.1 7 + M'.2.2.1 8 := by
        unfold c_len
        rw [e6, e20 20 (by omega), e20 21 (by omega), e20 22 (by omega), e20 23 (by omega)]
        omega
      have h16 := k1.2.2.2.2.2.1
      have hrk : 8 * c_rc M n + 2 * M.2.2.1 7 ≤ 2 * M'.2.2.1 7 ∧ c_rs M n + 2 * M.2.2.1 7 ≤ 2 * M'.2.2.1 7 := by
        unfold c_rc c_rs
        by_cases w : M.2.1 9 = 0 ∧ M.2.2.1 7 < 2 ^ n
        · rw [if_pos w, if_pos w]
          have : M'.2.2.1 7 = 2 ^ n := by
            rw [h7]; unfold c_rl; rw [if_pos w.1, Nat.max_eq_right (by omega)]
          have := c_p2d k9 ⟨n, rfl⟩ w.2
          omega
        · rw [if_neg w, if_neg w]
          omega
      have h8 := hP.2.1
      refine ⟨?_, ?_, hz⟩
      · unfold c_pc
        rw [if_pos w]
        rcases k4 with z | z
        · rw [if_pos z]; omega
        · rw [if_neg (by omega)]; omega
      · unfold c_ps
        rw [if_pos w]
        rcases k4 with z | z
        · rw [if_pos z]; omega
        · rw [if_neg (by omega)]; omega
  · have e := hs w
    rw [e] at hz ⊢
    refine ⟨h, c_frr M, by rw [hz.1]; omega, by rw [hz.2]; omega, hz⟩
end CKN
