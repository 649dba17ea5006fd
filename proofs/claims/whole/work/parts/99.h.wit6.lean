/-! PURE: minors: ORDER among the sets of some elements; independent sets suffice -/
theorem x_c2eq {S T : Nat} : ∀ k, (∀ j, j < k → S.testBit j = T.testBit j) → x_rev.x_cn2 k S = x_rev.x_cn2 k T
  | 0, _ => rfl
  | k + 1, h => by
    show 2 * x_rev.x_cn2 k S + _ = 2 * x_rev.x_cn2 k T + _
    rw [x_c2eq k (fun j hj => h j (by omega)), h k (by omega)]
theorem x_c2lt {S T i : Nat} (h1 : ∀ j, j < i → S.testBit j = T.testBit j) (h2 : S.testBit i = true) (h3 : T.testBit i = false) : ∀ k, i < k → x_rev.x_cn2 k T < x_rev.x_cn2 k S
  | 0, h => absurd h (Nat.not_lt_zero i)
  | k + 1, h => by
    show 2 * x_rev.x_cn2 k T + (if T.testBit k = true then 1 else 0) < 2 * x_rev.x_cn2 k S + (if S.testBit k = true then 1 else 0)
    by_cases q : i = k
    · rw [← q, x_c2eq i h1, h2, h3]
      simp
    · have := x_c2lt h1 h2 h3 k (by omega)
      split <;> split <;> omega
theorem x_fdif {S T : Nat} : ∀ k, (∀ j, j < k → S.testBit j = T.testBit j) ∨ ∃ i, i < k ∧ (∀ j, j < i → S.testBit j = T.testBit j) ∧ S.testBit i ≠ T.testBit i
  | 0 => Or.inl (fun j h => absurd h (Nat.not_lt_zero j))
  | k + 1 => by
    rcases x_fdif (S := S) (T := T) k with h | ⟨i, h1, h2, h3⟩
    · by_cases q : S.testBit k = T.testBit k
      · left
        intro j hj
        by_cases w : j = k
        · rw [w]; exact q
        · exact h j (by omega)
      · exact Or.inr ⟨k, by omega, h, q⟩
    · exact Or.inr ⟨i, by omega, h2, h3⟩
theorem x_sdeq {m : Nat} {k : Nat → Nat} (hk : x_up m k) (S : Nat) : x_sd m k S = x_im m k S := by
  apply Nat.eq_of_testBit_eq
  intro j
  apply x_bool
  rw [x_imb]
  constructor
  · intro h
    by_cases w : ∃ i, i < m ∧ k i = j
    · obtain ⟨i, i1, i2⟩ := w
      rw [← i2, x_sdb m hk i i1] at h
      exact ⟨i, i1, i2, h⟩
    · rw [x_sdo m (fun i hi e => w ⟨i, hi, e⟩)] at h
      exact absurd h (by decide)
  · intro ⟨i, i1, i2, i3⟩
    rw [← i2, x_sdb m hk i i1]; exact i3
theorem x_sdcn {m : Nat} {k : Nat → Nat} (hm : m ≤ 12) (hk : x_up m k) {S : Nat} (hS : S < 2 ^ m) : x_n (x_sd m k S) = x_n S := by
  rw [x_sdeq hk, x_imn m hk.2 (fun i j hi hj e => x_upi hk hi hj e), ← x_ncn hm hS]
theorem x_sdkey {m : Nat} {k : Nat → Nat} (hm : m ≤ 12) (hk : x_up m k) {S T : Nat} (hS : S < 2 ^ m) (hT : T < 2 ^ m) (h : x_key S < x_key T) : x_key (x_sd m k S) < x_key (x_sd m k T) := by
  have n1 := x_sdcn hm hk hS
  have n2 := x_sdcn hm hk hT
  by_cases q : x_n S < x_n T
  · exact x_keyd (by omega)
  · have hle := x_keyn h
    have hn : x_n S = x_n T := by omega
    have r1 := x_revlt S
    have r2 := x_revlt T
    have hr : x_rev T < x_rev S := by
      unfold x_key at h
      rw [hn] at h
      omega
    rcases x_fdif (S := S) (T := T) 12 with e | ⟨i, i1, i2, i3⟩
    · have := x_c2eq 12 e
      have e1 : x_rev S = x_rev.x_cn2 12 S := rfl
      have e2 : x_rev T = x_rev.x_cn2 12 T := rfl
      omega
    · have hSi : S.testBit i = true ∧ T.testBit i = false := by
        cases a : S.testBit i <;> cases c : T.testBit i
        · rw [a, c] at i3; exact absurd rfl i3
        · exfalso
          have := x_c2lt (S := T) (T := S) (fun j hj => (i2 j hj).symm) c a 12 i1
          have e1 : x_rev S = x_rev.x_cn2 12 S := rfl
          have e2 : x_rev T = x_rev.x_cn2 12 T := rfl
          omega
        · exact ⟨rfl, rfl⟩
        · rw [a, c] at i3; exact absurd rfl i3
      have him : i < m := by
        by_cases w : i < m
        · exact w
        · rw [Nat.testBit_lt_two_pow (Nat.lt_of_lt_of_le hS (Nat.pow_le_pow_right (by decide) (by omega)))] at hSi
          exact absurd hSi.1 (by decide)
      have hlt := x_c2lt (S := x_sd m k S) (T := x_sd m k T) (i := k i) (fun j hj => ?_) (by rw [x_sdb m hk i him]; exact hSi.1) (by rw [x_sdb m hk i him]; exact hSi.2) 12 (hk.2 i him)
      · have e1 : x_rev (x_sd m k S) = x_rev.x_cn2 12 (x_sd m k S) := rfl
        have e2 : x_rev (x_sd m k T) = x_rev.x_cn2 12 (x_sd m k T) := rfl
        have r3 := x_revlt (x_sd m k S)
        have r4 := x_revlt (x_sd m k T)
        unfold x_key
        rw [n1, n2, hn]
        omega
      · by_cases w : ∃ l, l < m ∧ k l = j
        · obtain ⟨l, l1, l2⟩ := w
          rw [← l2, x_sdb m hk l l1, x_sdb m hk l l1]
          refine i2 l ?_
          by_cases q2 : l < i
          · exact q2
          · exfalso
            by_cases q3 : l = i
            · rw [q3] at l2; omega
            · have := hk.1 i l (by omega) l1
              omega
        · rw [x_sdo m (fun l hl e => w ⟨l, hl, e⟩), x_sdo m (fun l hl e => w ⟨l, hl, e⟩)]
section WIN
variable {n R : Nat} {b : Nat → Bool}
/-- a part of c that is independent does what c does -/
theorem w_ind (h : x_M n R b) {c : Nat} (hc : c < 2 ^ 12) : ∃ c', (∀ i, c'.testBit i = true → c.testBit i = true) ∧ c' < 2 ^ 12 ∧ x_rk b c' = x_n c' ∧ ∀ X, x_rk b (X ||| c') = x_rk b (X ||| c) := by
  refine ⟨x_ra b c 12 0, fun i hi => ?_, x_ral (Nat.le_refl _) (by decide) 12 (Nat.le_refl _), ?_, fun X => ?_⟩
  · rcases x_rab 12 i hi with q | q
    · rw [Nat.zero_testBit] at q; exact absurd q (by decide)
    · exact q.2
  · have := x_rar h (set := c) (g := 0) 12 (Nat.le_refl _)
    have z1 : x_n 0 = 0 := by decide
    have z2 : x_rk b 0 = 0 := by have := x_rkn (b := b) 0; omega
    omega
  · have hcl : ∀ e, e < 12 → c.testBit e = true → (X ||| x_ra b c 12 0).testBit e = false → x_rk b (x_t (X ||| x_ra b c 12 0) e) = x_rk b (X ||| x_ra b c 12 0) := by
      intro e he hce hf
      rw [Nat.testBit_or, Bool.or_eq_false_iff] at hf
      refine x_clo h (X := x_ra b c 12 0) he (fun i _ hi => by rw [Nat.testBit_or, hi, Bool.or_true]) (by rw [Nat.testBit_or, hf.1, hf.2]; rfl) ?_
      exact x_rac h 12 (Nat.le_refl _) e he hce hf.2
    refine (x_span h (set := c) hcl _ (X ||| c) rfl (fun i _ hi => ?_) (fun i _ hi => ?_)).symm
    · rw [Nat.testBit_or, Bool.or_eq_true] at hi ⊢
      rcases hi with q | q
      · exact Or.inl q
      · rcases x_rab 12 i q with q2 | q2
        · rw [Nat.zero_testBit] at q2; exact absurd q2 (by decide)
        · exact Or.inr q2.2
    · rw [Nat.testBit_or, Bool.or_eq_true] at hi
      rcases hi with q | q
      · left; rw [Nat.testBit_or, q]; rfl
      · exact Or.inr q
theorem x_nsub {S T : Nat} (hS : S < 2 ^ 12) (hT : T < 2 ^ 12) (h : ∀ i, S.testBit i = true → T.testBit i = true) : x_n S ≤ x_n T ∧ (x_n S = x_n T → S = T) := by
  refine ⟨x_cnle 12 (fun i _ hi => h i hi), fun e => x_ext hS hT (x_cneq 12 (fun i _ hi => h i hi) e)⟩
theorem w_indP {ρ' : Nat → Nat} {g c c' e : Nat} {k f : Nat → Nat} (hX : ∀ X, x_rk b (X ||| c') = x_rk b (X ||| c)) (h : w_P (x_rk b) ρ' g k c e f) : w_P (x_rk b) ρ' g k c' e f := by
  refine ⟨h.1, h.2.1, fun S hS => ?_⟩
  have h0 := hX 0
  rw [Nat.zero_or, Nat.zero_or] at h0
  rw [hX, h.2.2 S hS, h0]
end WIN
