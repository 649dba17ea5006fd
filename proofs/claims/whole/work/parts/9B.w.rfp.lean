/-! PURE: from whole numbers to the residues of p -/
def x_fp (p : Nat) [NeZero p] (z : Int) : Fin p := ⟨(z % (p : Int)).toNat, by
  have h0 : p ≠ 0 := NeZero.ne p
  have h1 := Int.emod_nonneg z (show (p : Int) ≠ 0 by omega)
  have h2 := Int.emod_lt_of_pos z (show (0 : Int) < p by omega)
  omega⟩
theorem x_fpv (p : Nat) [NeZero p] (z : Int) : ((x_fp p z).val : Int) = z % (p : Int) := by
  have h0 : p ≠ 0 := NeZero.ne p
  exact Int.toNat_of_nonneg (Int.emod_nonneg z (show (p : Int) ≠ 0 by omega))
theorem x_fpe {p : Nat} [NeZero p] {a b : Fin p} (h : (a.val : Int) = (b.val : Int)) : a = b := Fin.ext (by omega)
theorem x_fpa (p : Nat) [NeZero p] (a b : Int) : x_fp p (a + b) = x_fp p a + x_fp p b := x_fpe (by
  rw [Fin.val_add, x_fpv, Int.natCast_emod, Int.natCast_add, x_fpv, x_fpv, ← Int.add_emod])
theorem x_fpm (p : Nat) [NeZero p] (a b : Int) : x_fp p (a * b) = x_fp p a * x_fp p b := x_fpe (by
  rw [Fin.val_mul, x_fpv, Int.natCast_emod, Int.natCast_mul, x_fpv, x_fpv, ← Int.mul_emod])
theorem x_fp0 (p : Nat) [NeZero p] : x_fp p 0 = 0 := x_fpe (by rw [x_fpv, Int.zero_emod]; rfl)
theorem x_fp1 (p : Nat) [NeZero p] : x_fp p 1 = 1 := x_fpe (by
  rw [x_fpv]
  show (1 : Int) % (p : Int) = ((1 % p : Nat) : Int)
  rw [Int.natCast_emod]; rfl)
theorem x_fpn (p : Nat) [NeZero p] (a : Int) : x_fp p (-a) = - x_fp p a := by
  have h := x_fpa p (-a) a
  rw [Int.add_left_neg, x_fp0] at h
  grind
theorem x_fps (p : Nat) [NeZero p] (q : Bool) : x_fp p (x_s Int q) = x_s (Fin p) q := by
  cases q
  · exact x_fp1 p
  · show x_fp p (-1) = -1
    rw [x_fpn, x_fp1]
theorem x_fpz (p : Nat) [NeZero p] (z : Int) : x_fp p z = 0 ↔ z % (p : Int) = 0 := by
  constructor
  · intro h
    rw [← x_fpv, h]; rfl
  · intro h
    exact x_fpe (by rw [x_fpv, h]; rfl)
theorem x_fpsm (p : Nat) [NeZero p] (f : Nat → Int) : ∀ n, x_fp p (x_sm n f) = x_sm n (fun i => x_fp p (f i))
  | 0 => x_fp0 p
  | n + 1 => by
    show x_fp p (x_sm n f + f n) = x_sm n (fun i => x_fp p (f i)) + x_fp p (f n)
    rw [x_fpa, x_fpsm p f n]
theorem x_fpw (p : Nat) [NeZero p] (r f : Nat → Int) (S : Nat) : x_fp p (x_w r f S) = x_w (fun e => x_fp p (r e)) (fun T => x_fp p (f T)) S := by
  unfold x_w
  rw [x_fpsm]
  refine x_smc 12 (fun e _ => ?_)
  by_cases q : S.testBit e = true
  · rw [if_pos q, if_pos q, x_fpm, x_fpm, x_fps]
  · rw [if_neg q, if_neg q, x_fp0]
theorem x_fpW (p : Nat) [NeZero p] (M : Nat → Nat → Int) : ∀ n S, x_fp p (x_W M n S) = x_W (fun i j => x_fp p (M i j)) n S
  | 0, S => by
    show x_fp p (if S = 0 then 1 else 0) = if S = 0 then 1 else 0
    split
    · exact x_fp1 p
    · exact x_fp0 p
  | n + 1, S => by
    rw [x_Ws, x_Ws, x_fpw]
    exact x_wcf _ S (fun T => x_fpW p M n T)
