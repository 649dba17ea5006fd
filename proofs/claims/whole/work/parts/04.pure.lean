/-- how many sets of k out of n -/
def px_bn : Nat → Nat → Nat
  | _, 0 => 1
  | 0, _ + 1 => 0
  | n + 1, k + 1 => px_bn n k + px_bn n (k + 1)
theorem px_bn0 (n : Nat) : px_bn n 0 = 1 := by cases n <;> rfl
theorem px_bnS (n k : Nat) : px_bn (n + 1) (k + 1) = px_bn n k + px_bn n (k + 1) := rfl
theorem px_bnZ : ∀ (n k : Nat), n < k → px_bn n k = 0 := by
  intro n
  induction n with
  | zero =>
    intro k h
    cases k with
    | zero => exact absurd h (Nat.not_lt_zero 0)
    | succ k => rfl
  | succ n ih =>
    intro k h
    cases k with
    | zero => exact absurd h (Nat.not_lt_zero _)
    | succ k => rw [px_bnS, ih k (by omega), ih (k + 1) (by omega)]
/-- how many sets of fewer than k of 12 -/
def px_sm : Nat → Nat
  | 0 => 0
  | k + 1 => px_sm k + px_bn 12 k
theorem px_sm_le : ∀ k, k < 13 → px_sm k + px_bn 12 k ≤ 4096 := by decide +kernel
theorem px_bit : ∀ k, k < 12 → (1 : Int32) <<< (nI k &&& 31) = nI (2 ^ k) := by decide +kernel
theorem px_or (a b : Nat) : nI a ||| nI b = nI (a ||| b) := by
  apply Int32.toBitVec_inj.1
  show BitVec.ofNat 32 a ||| BitVec.ofNat 32 b = BitVec.ofNat 32 (a ||| b)
  apply BitVec.eq_of_getLsbD_eq
  intro i hi
  simp [hi]
/-- the first n of f are numbers below 4096 -/
def px_ok (f : Nat → Int32) (n : Nat) : Prop := ∀ k, k < n → ∃ v : Nat, v < 4096 ∧ f k = nI v
theorem px_ok_add {f : Nat → Int32} {n v : Nat} (h : px_ok f n) (hn : n < 4096) (hv : v < 4096) : px_ok (upd f (nI n).toNatClampNeg (nI v)) (n + 1) := by
  intro k hk
  rw [nI_clamp (by omega)]
  rcases Nat.lt_or_ge k n with h1 | h1
  · obtain ⟨u, hu, eu⟩ := h k h1
    exact ⟨u, hu, by rw [pk_un (by omega)]; exact eu⟩
  · have e1 : k = n := by omega
    exact ⟨v, hv, by rw [e1, pk_us]⟩
theorem px_stlt {st fr e : Nat} (h : st < 2 ^ fr) (h1 : fr ≤ e) : st ||| 2 ^ e < 2 ^ (e + 1) := by
  apply Nat.or_lt_two_pow
  · exact Nat.lt_of_lt_of_le h (Nat.pow_le_pow_right (by omega) (by omega))
  · exact Nat.pow_lt_pow_right (by omega) (by omega)
theorem px_st4 {st fr : Nat} (h : st < 2 ^ fr) (h1 : fr ≤ 12) : st < 4096 :=
  Nat.lt_of_lt_of_le h (Nat.le_trans (Nat.pow_le_pow_right (by omega) h1) (by decide))
theorem px_ss {fs : List Value} {k n : Nat} {v : Value} (h : fs.length = n) (hk : k < n) : (fs.set k v)[k]? = some v := by
  rw [List.getElem?_set_self (by omega)]
theorem px_sn {fs : List Value} {k j : Nat} {v : Value} (h : k ≠ j) : (fs.set k v)[j]? = fs[j]? := by
  rw [List.getElem?_set_ne h]
theorem px_sl {fs : List Value} {k n : Nat} {v : Value} (h : fs.length = n) : (fs.set k v).length = n := by
  rw [List.length_set, h]
