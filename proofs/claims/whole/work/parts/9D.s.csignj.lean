/-! PURE: the signs of a sum -/
theorem x_rcs (n : Nat) (T : Nat) : ∀ j, x_rev.x_cn2 (n + j) T = 2 ^ j * x_rev.x_cn2 n T + x_rev.x_cn2 j (T / 2 ^ n)
  | 0 => by
    show x_rev.x_cn2 n T = 2 ^ 0 * x_rev.x_cn2 n T + 0
    rw [Nat.pow_zero, Nat.one_mul]; rfl
  | j + 1 => by
    have ih := x_rcs n T j
    show 2 * x_rev.x_cn2 (n + j) T + (if T.testBit (n + j) = true then 1 else 0) = 2 ^ (j + 1) * x_rev.x_cn2 n T + (2 * x_rev.x_cn2 j (T / 2 ^ n) + (if (T / 2 ^ n).testBit j = true then 1 else 0))
    rw [ih, x_db, Nat.pow_succ]
    generalize x_rev.x_cn2 n T = a
    generalize x_rev.x_cn2 j (T / 2 ^ n) = c
    generalize (if T.testBit (n + j) = true then 1 else 0) = d
    generalize 2 ^ j = e
    grind
theorem x_rcc {S T : Nat} : ∀ n, (∀ i, i < n → S.testBit i = T.testBit i) → x_rev.x_cn2 n S = x_rev.x_cn2 n T
  | 0, _ => rfl
  | n + 1, h => by
    show 2 * x_rev.x_cn2 n S + (if S.testBit n = true then 1 else 0) = 2 * x_rev.x_cn2 n T + (if T.testBit n = true then 1 else 0)
    rw [x_rcc n (fun i hi => h i (by omega)), h n (by omega)]
theorem x_rcz : ∀ n, x_rev.x_cn2 n 0 = 0
  | 0 => rfl
  | n + 1 => by
    show 2 * x_rev.x_cn2 n 0 + (if (0 : Nat).testBit n = true then 1 else 0) = 0
    rw [x_rcz n, Nat.zero_testBit]; rfl
theorem x_revj {n m T : Nat} (hn : n + m ≤ 12) (hT : T < 2 ^ (n + m)) : x_rev T = 2 ^ (12 - n) * x_rev.x_cn2 n (T % 2 ^ n) + x_rev.x_cn2 (12 - n) (T / 2 ^ n) ∧ x_rev (T % 2 ^ n) = 2 ^ (12 - n) * x_rev.x_cn2 n (T % 2 ^ n) ∧ x_rev (T / 2 ^ n) = 2 ^ n * x_rev.x_cn2 (12 - n) (T / 2 ^ n) := by
  have h1 := x_rcs n T (12 - n)
  have h2 := x_rcs n (T % 2 ^ n) (12 - n)
  have h3 := x_rcs (12 - n) (T / 2 ^ n) n
  rw [show n + (12 - n) = 12 by omega] at h1 h2
  rw [show 12 - n + n = 12 by omega] at h3
  have e1 : x_rev.x_cn2 n T = x_rev.x_cn2 n (T % 2 ^ n) := x_rcc n (fun i hi => by rw [x_mb, decide_eq_true hi, Bool.true_and])
  have e2 : T % 2 ^ n / 2 ^ n = 0 := Nat.div_eq_of_lt (Nat.mod_lt _ (Nat.two_pow_pos n))
  have e3 : T / 2 ^ n / 2 ^ (12 - n) = 0 := by
    rw [Nat.div_div_eq_div_mul, ← Nat.pow_add, show n + (12 - n) = 12 by omega]
    exact Nat.div_eq_of_lt (Nat.lt_of_lt_of_le hT (Nat.pow_le_pow_right (by decide) hn))
  rw [e1] at h1
  rw [e2, x_rcz, Nat.add_zero] at h2
  rw [e3, x_rcz, Nat.add_zero] at h3
  exact ⟨h1, h2, h3⟩
theorem x_keyv {S T : Nat} (hn : x_n S = x_n T) : x_key S ≤ x_key T ↔ x_rev T ≤ x_rev S := by
  have h1 := x_revlt S
  have h2 := x_revlt T
  unfold x_key
  omega
section CSJ
variable {p n m r t : Nat} {f g : Nat → Int}
theorem x_sgJ (hp : x_pm p) (hn : n + m ≤ 12) (hf : x_gh p n r f) (hg : x_gh p m t g) (S : Nat) (hS : S < 2 ^ (n + m)) : x_sjo n (x_sgn2 p n r (x_Fg p f)) (x_sgn2 p m t (x_Fg p g)) S = x_sgn2 p (n + m) (r + t) (x_Fg p (x_fj n m f g)) S := by
  have hJ := x_smG hp hn hf hg
  have hS12 : ∀ {S}, S < 2 ^ (n + m) → S < 2 ^ 12 := fun {S} h => Nat.lt_of_lt_of_le h (Nat.pow_le_pow_right (by decide) hn)
  have hsp : ∀ {S}, S < 2 ^ (n + m) → x_n S = x_n (S % 2 ^ n) + x_n (S / 2 ^ n) := fun {S} h => x_nsp (by omega) (hS12 h)
  have hlt : ∀ {S}, S < 2 ^ (n + m) → S % 2 ^ n < 2 ^ n ∧ S / 2 ^ n < 2 ^ m := fun {S} h => ⟨Nat.mod_lt _ (Nat.two_pow_pos n), by rw [Nat.pow_add] at h; exact Nat.div_lt_of_lt_mul h⟩
  have hF : ∀ S, S < 2 ^ (n + m) → x_Fg p (x_fj n m f g) S = x_Fg p f (S % 2 ^ n) * x_Fg p g (S / 2 ^ n) := fun S hS => by
    have e : x_fj n m f g S = f (S % 2 ^ n) * g (S / 2 ^ n) := by unfold x_fj; rw [if_pos hS]
    unfold x_Fg
    rw [e]
    by_cases p0 : p = 0
    · rw [if_pos p0, if_pos p0, if_pos p0]; exact x_sgm _ _
    · rw [if_neg p0, if_neg p0, if_neg p0]
      have := x_mdm hp (f (S % 2 ^ n)) (g (S / 2 ^ n))
      by_cases q1 : x_md p (f (S % 2 ^ n)) = 0
      · rw [if_pos (this.2 (Or.inl q1)), if_pos q1, Int32.zero_mul]
      · by_cases q2 : x_md p (g (S / 2 ^ n)) = 0
        · rw [if_pos (this.2 (Or.inr q2)), if_pos q2, Int32.mul_zero]
        · rw [if_neg (fun w => (this.1 w).elim q1 q2), if_neg q1, if_neg q2]; rfl
  have z1 : ∀ T, ¬ x_n T = r → x_Fg p f T = 0 := fun T q => (x_Fgz T).2 (Classical.byContradiction (fun w => q (hf.2.1 T w).2))
  have z2 : ∀ T, ¬ x_n T = t → x_Fg p g T = 0 := fun T q => (x_Fgz T).2 (Classical.byContradiction (fun w => q (hg.2.1 T w).2))
  have s1 : ∀ T, x_sgn2 p n r (x_Fg p f) T = if p = 0 then x_Fg p f T * x_fst n r (x_Fg p f) 4096 else x_Fg p f T := fun T => by
    unfold x_sgn2
    by_cases q : x_n T = r
    · rw [if_pos q]
    · rw [if_neg q, z1 T q, Int32.zero_mul]
      split <;> rfl
  have s2 : ∀ T, x_sgn2 p m t (x_Fg p g) T = if p = 0 then x_Fg p g T * x_fst m t (x_Fg p g) 4096 else x_Fg p g T := fun T => by
    unfold x_sgn2
    by_cases q : x_n T = t
    · rw [if_pos q]
    · rw [if_neg q, z2 T q, Int32.zero_mul]
      split <;> rfl
  have s3 : x_sgn2 p (n + m) (r + t) (x_Fg p (x_fj n m f g)) S = if p = 0 then x_Fg p (x_fj n m f g) S * x_fst (n + m) (r + t) (x_Fg p (x_fj n m f g)) 4096 else x_Fg p (x_fj n m f g) S := by
    unfold x_sgn2
    by_cases q : x_n S = r + t
    · rw [if_pos q]
    · have : x_Fg p (x_fj n m f g) S = 0 := (x_Fgz S).2 (Classical.byContradiction (fun w => q (hJ.2.1 S w).2))
      rw [if_neg q, this, Int32.zero_mul]
      split <;> rfl
  unfold x_sjo
  rw [s1, s2, s3, hF S hS]
  by_cases p0 : p = 0
  · rw [if_pos p0, if_pos p0, if_pos p0]
    obtain ⟨S1, f1, e1⟩ := x_fstE (F := x_Fg p f) (by omega) (x_Fgn hf)
    obtain ⟨S2, f2, e2⟩ := x_fstE (F := x_Fg p g) (by omega) (x_Fgn hg)
    obtain ⟨S3, f3, e3⟩ := x_fstE (F := x_Fg p (x_fj n m f g)) hn (x_Fgn hJ)
    -- the first of the sum
    have b1 := f1.1
    have b2 := f2.1
    have c1 : (S1 + 2 ^ n * S2) % 2 ^ n = S1 := by rw [Nat.add_mul_mod_self_left, Nat.mod_eq_of_lt b1]
    have c2 : (S1 + 2 ^ n * S2) / 2 ^ n = S2 := by rw [Nat.add_mul_div_left _ _ (Nat.two_pow_pos n), Nat.div_eq_of_lt b1, Nat.zero_add]
    have c3 : S1 + 2 ^ n * S2 < 2 ^ (n + m) := by
      rw [Nat.pow_add]
      have : 2 ^ n * (S2 + 1) ≤ 2 ^ n * 2 ^ m := Nat.mul_le_mul_left _ b2
      rw [Nat.mul_add, Nat.mul_one] at this
      omega
    have hz : ∀ {x y : Int32}, (x = 1 ∨ x = -1) → (y = 1 ∨ y = -1) → ¬ x * y = 0 := fun hx hy => by
      rcases hx with w | w <;> rcases hy with v | v <;> rw [w, v] <;> decide
    have pm : ∀ {h : Nat → Int} {T}, ¬ x_Fg p h T = 0 → x_Fg p h T = 1 ∨ x_Fg p h T = -1 := fun {h T} q => by
      unfold x_Fg at q ⊢
      rw [if_pos p0] at q ⊢
      exact x_sg1 (fun w => q (by rw [w]; rfl))
    have f3' : x_Fi (n + m) (r + t) (x_Fg p (x_fj n m f g)) (S1 + 2 ^ n * S2) := by
      refine ⟨c3, by rw [hsp c3, c1, c2, f1.2.1, f2.2.1], by rw [hF _ c3, c1, c2]; exact hz (pm f1.2.2.1) (pm f2.2.2.1), fun T t1 t2 t3 => ?_⟩
      rw [hF T t1] at t3
      have hT1 : ¬ x_Fg p f (T % 2 ^ n) = 0 := fun w => t3 (by rw [w, Int32.zero_mul])
      have hT2 : ¬ x_Fg p g (T / 2 ^ n) = 0 := fun w => t3 (by rw [w, Int32.mul_zero])
      have n1 : x_n (T % 2 ^ n) = r := Classical.byContradiction (fun w => hT1 (z1 _ w))
      have n2 : x_n (T / 2 ^ n) = t := Classical.byContradiction (fun w => hT2 (z2 _ w))
      have k1 := f1.2.2.2 _ (hlt t1).1 n1 hT1
      have k2 := f2.2.2.2 _ (hlt t1).2 n2 hT2
      rw [x_keyv (by rw [f1.2.1, n1])] at k1
      rw [x_keyv (by rw [f2.2.1, n2])] at k2
      rw [x_keyv (by rw [hsp c3, c1, c2, f1.2.1, f2.2.1, t2])]
      obtain ⟨a1, a2, a3⟩ := x_revj hn t1
      obtain ⟨d1, d2, d3⟩ := x_revj hn c3
      rw [c1, c2] at d1
      rw [c1] at d2
      rw [c2] at d3
      rw [a2, d2] at k1
      rw [a3, d3] at k2
      have l1 : x_rev.x_cn2 n (T % 2 ^ n) ≤ x_rev.x_cn2 n S1 := Nat.le_of_mul_le_mul_left k1 (Nat.two_pow_pos _)
      have l2 : x_rev.x_cn2 (12 - n) (T / 2 ^ n) ≤ x_rev.x_cn2 (12 - n) S2 := Nat.le_of_mul_le_mul_left k2 (Nat.two_pow_pos _)
      rw [a1, d1]
      exact Nat.add_le_add (Nat.mul_le_mul_left _ l1) l2
    have e4 := x_Fiu hn f3 f3'
    subst e4
    rw [e1, e2, e3, hF _ c3, c1, c2]
    generalize x_Fg p f (S % 2 ^ n) = A
    generalize x_Fg p g (S / 2 ^ n) = B
    generalize x_Fg p f S1 = C
    generalize x_Fg p g S2 = D
    grind
  · rw [if_neg p0, if_neg p0, if_neg p0]
end CSJ
