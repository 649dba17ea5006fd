/-! PURE, the reference: what bounds a determinant -/
theorem x_sabs (q : Bool) : (x_s Int q).natAbs = 1 := by cases q <;> rfl
theorem x_wb {r f : Nat → Int} {b F : Nat} (hr : ∀ e, e < 12 → (r e).natAbs ≤ b) (hf : ∀ T, (f T).natAbs ≤ F) (S : Nat) : (x_w r f S).natAbs ≤ 12 * (b * F) := by
  unfold x_w
  refine x_smb 12 (fun e he => ?_)
  show (if S.testBit e = true then x_s Int (x_od S e) * r e * f (x_t S e) else 0).natAbs ≤ _
  split
  · rw [Int.natAbs_mul, Int.natAbs_mul, x_sabs, Nat.one_mul]
    exact Nat.mul_le_mul (hr e he) (hf _)
  · exact Nat.zero_le _
theorem x_Wb {p : Nat → Nat → Int} {b : Nat} : ∀ (n : Nat), (∀ i, i < n → ∀ e, e < 12 → (p i e).natAbs ≤ b) → ∀ S, (x_W p n S).natAbs ≤ (12 * b) ^ n
  | 0, _, S => by
    show (if S = 0 then (1 : Int) else 0).natAbs ≤ _
    rw [Nat.pow_zero]
    split
    · exact Nat.le_refl 1
    · exact Nat.zero_le _
  | n + 1, h, S => by
    have ih := x_Wb n (fun i hi => h i (by omega))
    rw [x_Ws, Nat.pow_succ]
    have := x_wb (h n (by omega)) ih S
    rw [Nat.mul_comm ((12 * b) ^ n), Nat.mul_assoc]
    exact this
theorem x_mub {p : Nat → Nat → Int} {b c k j : Nat} (h : ∀ i, i < c → ∀ e, e < 12 → (p i e).natAbs ≤ b) (hk : ∀ e, e < 12 → (p k e).natAbs ≤ b) : (x_mu p c k j).natAbs ≤ (12 * b) ^ (c + 1) := by
  unfold x_mu x_u
  split
  · exact Nat.zero_le _
  · rw [Int.natAbs_mul, x_sabs, Nat.one_mul, Nat.pow_succ, Nat.mul_comm ((12 * b) ^ c), Nat.mul_assoc]
    exact x_wb hk (x_Wb c h) _
theorem x_mub6 {p : Nat → Nat → Int} {n c k j : Nat} (hn : n ≤ 6) (hc : c < n) (hk : k < n) (h : ∀ i, i < n → ∀ e, e < 12 → (p i e).natAbs < 65536 ^ 9) : (x_mu p c k j).natAbs < 65536 ^ 60 := by
  have h1 := x_mub (p := p) (b := 65536 ^ 9) (c := c) (k := k) (j := j) (fun i hi e he => Nat.le_of_lt (h i (by omega) e he)) (fun e he => Nat.le_of_lt (h k hk e he))
  have h2 : (12 * 65536 ^ 9) ^ (c + 1) ≤ (12 * 65536 ^ 9) ^ 6 := Nat.pow_le_pow_right (by decide) (by omega)
  have h3 : (12 * 65536 ^ 9) ^ 6 < 65536 ^ 60 := by decide +kernel
  omega
theorem x_db6 {p : Nat → Nat → Int} {n c : Nat} (hn : n ≤ 6) (hc : c ≤ n) (h : ∀ i, i < n → ∀ e, e < 12 → (p i e).natAbs < 65536 ^ 9) : (x_d p c).natAbs < 65536 ^ 60 := by
  have h1 := x_Wb (p := p) (b := 65536 ^ 9) c (fun i hi e he => Nat.le_of_lt (h i (by omega) e he)) (2 ^ c - 1)
  have h2 : (12 * 65536 ^ 9) ^ c ≤ (12 * 65536 ^ 9) ^ 6 := Nat.pow_le_pow_right (by decide) (by omega)
  have h3 : (12 * 65536 ^ 9) ^ 6 < 65536 ^ 60 := by decide +kernel
  unfold x_d
  omega
theorem x_domI : x_dom Int := ⟨fun a b h => Int.mul_eq_zero.1 h, by decide⟩
/-- two rows changed -/
theorem x_muc {p q : Nat → Nat → Int} {c k k' j : Nat} (hj : j < 12) (h : ∀ i, i < c → ∀ e, e < 12 → q i e = p i e) (hk : ∀ e, e < 12 → q k e = p k' e) : x_mu q c k j = x_mu p c k' j := by
  unfold x_mu x_u
  split
  · rfl
  · congr 1
    unfold x_w
    refine x_smc 12 (fun e he => ?_)
    by_cases w : (x_t (2 ^ c - 1) j).testBit e = true
    · rw [if_pos w, if_pos w, hk e he, x_Wc c h]
    · rw [if_neg w, if_neg w]
theorem b_ix6 {i j : Nat} : (6 : Int32) * nI i + nI j = nI (6 * i + j) := by
  rw [show (6 : Int32) = nI 6 from rfl, pk_mul, nI_add]
theorem b_ix6d {c : Nat} (hc : 0 < c) : (6 : Int32) * (nI c - 1) + nI c - 1 = nI (6 * (c - 1) + (c - 1)) := by
  have e : nI c - 1 = nI (c - 1) := pk_sub (b := 1) hc
  rw [e, show (6 : Int32) = nI 6 from rfl, pk_mul, nI_add, show nI (6 * (c - 1) + c) - 1 = nI (6 * (c - 1) + c - 1) from pk_sub (b := 1) (by omega)]
  congr 1; omega
