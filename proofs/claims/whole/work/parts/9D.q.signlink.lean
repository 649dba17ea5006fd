/-! PURE: bases and signs of a ghost form -/
def x_bg (p : Nat) (g : Nat → Int) (S : Nat) : Bool := !decide (x_md p (g S) = 0)
def x_Fg (p : Nat) (g : Nat → Int) (S : Nat) : Int32 := if p = 0 then x_sg (g S) else if x_md p (g S) = 0 then 0 else 1
theorem x_ppz {p r : Nat} {K : Nat → Nat → Int} {g : Nat → Int} (hp : x_pm p) (h : x_pp p r K g) (S : Nat) : x_md p (x_W K r S) = 0 ↔ x_md p (g S) = 0 := by
  obtain ⟨a, b, ha, hb, he⟩ := h
  have h1 := x_mdm hp a (x_W K r S)
  have h2 := x_mdm hp b (g S)
  rw [he S] at h1
  constructor
  · intro q
    exact (h2.1 (h1.2 (Or.inr q))).resolve_left hb
  · intro q
    exact (h1.1 (h2.2 (Or.inr q))).resolve_left ha
theorem x_ppb {p r : Nat} {K : Nat → Nat → Int} {g : Nat → Int} (hp : x_pm p) (h : x_pp p r K g) : x_bm p r K = x_bg p g := by
  funext S
  unfold x_bm x_bg
  congr 1
  simp only [x_ppz hp h S]
theorem x_sgm (a b : Int) : x_sg (a * b) = x_sg a * x_sg b := by
  unfold x_sg
  rcases Int.lt_trichotomy a 0 with ha | ha | ha
  · rcases Int.lt_trichotomy b 0 with hb | hb | hb
    · have := Int.mul_pos_of_neg_of_neg ha hb
      rw [if_neg (by omega), if_neg (by omega), if_pos ha, if_pos hb]; rfl
    · rw [hb, Int.mul_zero, if_pos ha]; rfl
    · have := Int.mul_neg_of_neg_of_pos ha hb
      rw [if_pos this, if_pos ha, if_neg (by omega), if_neg (by omega)]; rfl
  · rw [ha, Int.zero_mul]
    rcases Int.lt_trichotomy b 0 with hb | hb | hb
    · rw [if_pos hb]; rfl
    · rw [hb]; rfl
    · rw [if_neg (show ¬ b < 0 by omega), if_neg (show ¬ b = 0 by omega)]; rfl
  · rcases Int.lt_trichotomy b 0 with hb | hb | hb
    · have := Int.mul_neg_of_pos_of_neg ha hb
      rw [if_pos this, if_neg (by omega), if_neg (by omega), if_pos hb]; rfl
    · rw [hb, Int.mul_zero, if_neg (show ¬ a < 0 by omega), if_neg (show ¬ a = 0 by omega)]; rfl
    · have := Int.mul_pos ha hb
      rw [if_neg (by omega), if_neg (by omega), if_neg (show ¬ a < 0 by omega), if_neg (show ¬ a = 0 by omega), if_neg (show ¬ b < 0 by omega), if_neg (show ¬ b = 0 by omega)]; rfl
theorem x_sg1 {a : Int} (h : ¬ a = 0) : x_sg a = 1 ∨ x_sg a = -1 := by
  unfold x_sg
  by_cases q : a < 0
  · rw [if_pos q]; exact Or.inr rfl
  · rw [if_neg q, if_neg h]; exact Or.inl rfl
/-- signs do not change with a factor -/
theorem x_sgn2c {n r : Nat} {F G : Nat → Int32} {σ : Int32} (hσ : σ = 1 ∨ σ = -1) (h : ∀ S, F S = σ * G S) (S : Nat) : x_sgn2 0 n r F S = x_sgn2 0 n r G S := by
  have hss : σ * σ = 1 := by rcases hσ with q | q <;> rw [q] <;> decide
  have hz : ∀ x : Int32, σ * x = 0 ↔ x = 0 := fun x => by
    rcases hσ with q | q
    · rw [q, Int32.one_mul]
    · rw [q]
      constructor
      · intro w
        have : (-1 : Int32) * ((-1) * x) = 0 := by rw [w]; decide
        rw [← Int32.mul_assoc, show (-1 : Int32) * (-1) = 1 by decide, Int32.one_mul] at this
        exact this
      · intro w; rw [w]; decide
  have hf : ∀ k, x_fst n r F k = σ * x_fst n r G k := fun k => by
    induction k with
    | zero => show (0 : Int32) = σ * 0; rcases hσ with q | q <;> rw [q] <;> decide
    | succ k ih =>
      show (if x_or 12 k < 2 ^ n then (if x_fst n r F k = 0 then (if x_n (x_or 12 k) = r then F (x_or 12 k) else 0) else x_fst n r F k) else x_fst n r F k) = σ * (if x_or 12 k < 2 ^ n then (if x_fst n r G k = 0 then (if x_n (x_or 12 k) = r then G (x_or 12 k) else 0) else x_fst n r G k) else x_fst n r G k)
      rw [ih]
      by_cases q1 : x_or 12 k < 2 ^ n
      · rw [if_pos q1, if_pos q1]
        by_cases q2 : x_fst n r G k = 0
        · rw [if_pos ((hz _).2 q2), if_pos q2]
          by_cases q3 : x_n (x_or 12 k) = r
          · rw [if_pos q3, if_pos q3, h]
          · rw [if_neg q3, if_neg q3]; exact ((hz 0).2 rfl).symm
        · rw [if_neg (fun w => q2 ((hz _).1 w)), if_neg q2]
      · rw [if_neg q1, if_neg q1]
  unfold x_sgn2
  rw [if_pos rfl, if_pos rfl, hf 4096, h S]
  split
  · generalize x_fst n r G 4096 = y
    generalize G S = x
    have : σ * x * (σ * y) = (σ * σ) * (x * y) := by grind
    rw [this, hss, Int32.one_mul]
  · rfl
theorem x_sgK {p n r : Nat} {K : Nat → Nat → Int} {g : Nat → Int} (hp : x_pm p) (h : x_pp p r K g) (S : Nat) : x_sgn2 p n r (x_Fm p r K) S = x_sgn2 p n r (x_Fg p g) S := by
  by_cases p0 : p = 0
  · subst p0
    obtain ⟨a, b, ha, hb, he⟩ := h
    simp only [x_md0] at ha hb he
    have h1 := x_sg1 ha
    have h2 := x_sg1 hb
    refine x_sgn2c (σ := x_sg a * x_sg b) ?_ (fun S => ?_) S
    · rcases h1 with q | q <;> rcases h2 with w | w <;> rw [q, w] <;> decide
    · show (if (0 : Nat) = 0 then x_sg (x_W K r S) else _) = _ * (if (0 : Nat) = 0 then x_sg (g S) else _)
      rw [if_pos rfl, if_pos rfl]
      have e1 : x_sg a * x_sg (x_W K r S) = x_sg b * x_sg (g S) := by rw [← x_sgm, ← x_sgm, he S]
      have haa : x_sg a * x_sg a = 1 := by rcases h1 with q | q <;> rw [q] <;> decide
      generalize x_sg a = A at *
      generalize x_sg b = B at *
      generalize x_sg (x_W K r S) = X at *
      generalize x_sg (g S) = Y at *
      have : X = A * A * X := by rw [haa, Int32.one_mul]
      rw [this, Int32.mul_assoc, e1, Int32.mul_assoc]
  · have e : x_Fm p r K = x_Fg p g := by
      funext S
      unfold x_Fm x_Fg
      rw [if_neg p0, if_neg p0]
      simp only [x_ppz hp h S]
    rw [e]
/-- the first set in ORDER where F is not 0 -/
def x_Fi (n r : Nat) (F : Nat → Int32) (S0 : Nat) : Prop := S0 < 2 ^ n ∧ x_n S0 = r ∧ (¬ F S0 = 0) ∧ ∀ S, S < 2 ^ n → x_n S = r → ¬ F S = 0 → x_key S0 ≤ x_key S
theorem x_Fiu {n r : Nat} {F : Nat → Int32} {S T : Nat} (hn : n ≤ 12) (h1 : x_Fi n r F S) (h2 : x_Fi n r F T) : S = T := by
  have hp : 2 ^ n ≤ 4096 := by
    have : 2 ^ n ≤ 2 ^ 12 := Nat.pow_le_pow_right (by decide) hn
    exact this
  refine x_keyi (by have := h1.1; omega) (by have := h2.1; omega) ?_
  have a := h1.2.2.2 T h2.1 h2.2.1 h2.2.2.1
  have b := h2.2.2.2 S h1.1 h1.2.1 h1.2.2.1
  omega
theorem x_fstE {n r : Nat} {F : Nat → Int32} (hn : n ≤ 12) (h : ∃ S, S < 2 ^ n ∧ x_n S = r ∧ ¬ F S = 0) : ∃ S0, x_Fi n r F S0 ∧ x_fst n r F 4096 = F S0 := by
  have hp : 2 ^ n ≤ 4096 := by
    have : 2 ^ n ≤ 2 ^ 12 := Nat.pow_le_pow_right (by decide) hn
    exact this
  have key : ∀ k, k ≤ 4096 → (x_fst n r F k = 0 ∧ ∀ i, i < k → x_or 12 i < 2 ^ n → x_n (x_or 12 i) = r → F (x_or 12 i) = 0) ∨ (∃ i0, i0 < k ∧ x_or 12 i0 < 2 ^ n ∧ x_n (x_or 12 i0) = r ∧ (¬ F (x_or 12 i0) = 0) ∧ (∀ i, i < i0 → x_or 12 i < 2 ^ n → x_n (x_or 12 i) = r → F (x_or 12 i) = 0) ∧ x_fst n r F k = F (x_or 12 i0)) := fun k => by
    induction k with
    | zero => intro _; exact Or.inl ⟨rfl, fun i hi => absurd hi (Nat.not_lt_zero i)⟩
    | succ k ih =>
      intro hk
      have hs : x_fst n r F (k + 1) = if x_or 12 k < 2 ^ n then (if x_fst n r F k = 0 then (if x_n (x_or 12 k) = r then F (x_or 12 k) else 0) else x_fst n r F k) else x_fst n r F k := rfl
      rcases ih (by omega) with ⟨a1, a2⟩ | ⟨i0, b1, b2, b3, b4, b5, b6⟩
      · by_cases q : x_or 12 k < 2 ^ n ∧ x_n (x_or 12 k) = r ∧ ¬ F (x_or 12 k) = 0
        · refine Or.inr ⟨k, by omega, q.1, q.2.1, q.2.2, a2, ?_⟩
          rw [hs, if_pos q.1, if_pos a1, if_pos q.2.1]
        · refine Or.inl ⟨?_, fun i hi c1 c2 => ?_⟩
          · rw [hs]
            by_cases q1 : x_or 12 k < 2 ^ n
            · rw [if_pos q1, if_pos a1]
              by_cases q2 : x_n (x_or 12 k) = r
              · rw [if_pos q2]; exact Classical.byContradiction (fun w => q ⟨q1, q2, w⟩)
              · rw [if_neg q2]
            · rw [if_neg q1]; exact a1
          · by_cases w : i = k
            · rw [w] at c1 c2 ⊢; exact Classical.byContradiction (fun z => q ⟨c1, c2, z⟩)
            · exact a2 i (by omega) c1 c2
      · refine Or.inr ⟨i0, by omega, b2, b3, b4, b5, ?_⟩
        rw [hs, b6, if_neg b4]
        split <;> rfl
  rcases key 4096 (Nat.le_refl _) with ⟨a1, a2⟩ | ⟨i0, b1, b2, b3, b4, b5, b6⟩
  · obtain ⟨S, c1, c2, c3⟩ := h
    obtain ⟨i, d1, d2⟩ := x_orx (n := 12) (Nat.le_refl 12) (show S < 2 ^ 12 by omega)
    exact absurd (by have := a2 i d1 (by rw [d2]; exact c1) (by rw [d2]; exact c2); rw [d2] at this; exact this) c3
  · refine ⟨x_or 12 i0, ⟨b2, b3, b4, fun S c1 c2 c3 => ?_⟩, b6⟩
    obtain ⟨i, d1, d2⟩ := x_orx (n := 12) (Nat.le_refl 12) (show S < 2 ^ 12 by omega)
    rw [← d2]
    rcases Nat.lt_trichotomy i i0 with w | w | w
    · exact absurd (b5 i w (by rw [d2]; exact c1) (by rw [d2]; exact c2)) (by rw [d2]; exact c3)
    · rw [w]; exact Nat.le_refl _
    · exact Nat.le_of_lt (x_orp (Nat.le_refl 12) w d1)
theorem x_f1E {n r : Nat} {F : Nat → Int32} (hn : n ≤ 12) (h : ∃ S, S < 2 ^ n ∧ x_n S = r ∧ ¬ F S = 0) : ∃ S0, x_Fi n r F S0 ∧ x_f1 F n r = F S0 := by
  have key : ∀ u i, (∃ j, i ≤ j ∧ j < i + u ∧ ¬ F (x_or n j) = 0) → ∃ j, i ≤ j ∧ j < i + u ∧ (¬ F (x_or n j) = 0) ∧ (∀ j', i ≤ j' → j' < j → F (x_or n j') = 0) ∧ x_fs F n u i = F (x_or n j) := fun u => by
    induction u with
    | zero => intro i ⟨j, a, b, _⟩; exact absurd b (by omega)
    | succ u ih =>
      intro i ⟨j, a, b, c⟩
      have hs : x_fs F n (u + 1) i = if F (x_or n i) = 0 then x_fs F n u (i + 1) else F (x_or n i) := rfl
      by_cases q : F (x_or n i) = 0
      · have hji : j ≠ i := fun w => c (by rw [w]; exact q)
        obtain ⟨j2, c1, c2, c3, c4, c5⟩ := ih (i + 1) ⟨j, by omega, by omega, c⟩
        refine ⟨j2, by omega, by omega, c3, fun j' d1 d2 => ?_, by rw [hs, if_pos q, c5]⟩
        by_cases w : j' = i
        · rw [w]; exact q
        · exact c4 j' (by omega) d2
      · exact ⟨i, Nat.le_refl i, by omega, q, fun j' d1 d2 => absurd d2 (by omega), by rw [hs, if_neg q]⟩
  obtain ⟨S, c1, c2, c3⟩ := h
  obtain ⟨i, d1, d2⟩ := x_orx hn c1
  have hin := (x_sti (m := r) hn d1).2 (by rw [d2]; exact c2)
  have hsm := x_stm (n := n) (show r ≤ r + 1 by omega)
  obtain ⟨j, e1, e2, e3, e4, e5⟩ := key (x_st n (r + 1) - x_st n r) (x_st n r) ⟨i, hin.1, by omega, by rw [d2]; exact c3⟩
  have hj2 : j < x_st n (r + 1) := by omega
  have hjn : j < 2 ^ n := by
    have := x_stl (m := n) (j := r + 1) hn
    omega
  have hol := (x_orl hn hjn).1
  have hjr := (x_sti (m := r) hn hjn).1 ⟨e1, hj2⟩
  refine ⟨x_or n j, ⟨hol, hjr, e3, fun T t1 t2 t3 => ?_⟩, e5⟩
  obtain ⟨i', f1, f2⟩ := x_orx hn t1
  have hin' := (x_sti (m := r) hn f1).2 (by rw [f2]; exact t2)
  rw [← f2]
  rcases Nat.lt_trichotomy i' j with w | w | w
  · exact absurd (e4 i' hin'.1 w) (by rw [f2]; exact t3)
  · rw [w]; exact Nat.le_refl _
  · exact Nat.le_of_lt (x_orp hn w f1)
