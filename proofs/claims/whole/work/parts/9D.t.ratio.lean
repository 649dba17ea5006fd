/-! PURE: ratios, as both sides write them -/
theorem x_invs {p a : Nat} (h : ∃ b, b < p ∧ a * b % p = 1) : x_inv p a < p ∧ a * x_inv p a % p = 1 := by
  unfold x_inv
  cases q : (List.range p).find? (fun b => decide (a * b % p = 1)) with
  | none =>
    obtain ⟨b, h1, h2⟩ := h
    have := List.find?_eq_none.1 q b (List.mem_range.2 h1)
    exact absurd (decide_eq_true h2) this
  | some c =>
    have h1 := List.find?_some q
    have h2 := List.mem_of_find?_eq_some q
    exact ⟨List.mem_range.1 h2, of_decide_eq_true h1⟩
/-- the number A / d, as it is written -/
def x_rat (p : Nat) (A d : Int) : List Nat := if p = 0 then x_rt0 false A d else x_dg ((x_md p A).toNat * x_inv p (x_md p d).toNat % p)
theorem x_gcr {a d a' d' : Nat} (hd : 0 < d) (hd' : 0 < d') (h : a * d' = a' * d) : a / Nat.gcd a d = a' / Nat.gcd a' d' ∧ d / Nat.gcd a d = d' / Nat.gcd a' d' := by
  have e : Nat.gcd a d * d' = Nat.gcd a' d' * d := by
    rw [← Nat.gcd_mul_right, ← Nat.gcd_mul_right, h, Nat.mul_comm d d']
  constructor
  · rw [← Nat.mul_div_mul_right a (Nat.gcd a d) hd', ← Nat.mul_div_mul_right a' (Nat.gcd a' d') hd, e, h]
  · rw [← Nat.mul_div_mul_right d (Nat.gcd a d) hd', ← Nat.mul_div_mul_right d' (Nat.gcd a' d') hd, e, Nat.mul_comm d d']
theorem x_sgl0 {A : Int} (h : ¬ A = 0) : (decide (A < 0) = true ∧ x_sg A = -1) ∨ (decide (A < 0) = false ∧ x_sg A = 1) := by
  unfold x_sg
  by_cases q : A < 0
  · rw [if_pos q]; exact Or.inl ⟨decide_eq_true q, rfl⟩
  · rw [if_neg q, if_neg h]; exact Or.inr ⟨decide_eq_false q, rfl⟩
theorem x_rtE {A d A' d' : Int} (hd : ¬ d = 0) (hd' : ¬ d' = 0) (h : A * d' = A' * d) : x_rt0 false A d = x_rt0 false A' d' := by
  by_cases q : A = 0
  · have q' : A' = 0 := by
      rw [q, Int.zero_mul] at h
      exact (Int.mul_eq_zero.1 h.symm).resolve_right hd
    unfold x_rt0
    rw [if_pos (Or.inl q), if_pos (Or.inl q')]
  · have q' : ¬ A' = 0 := fun w => by
      rw [w, Int.zero_mul] at h
      exact (Int.mul_eq_zero.1 h).elim q hd'
    have hn : A.natAbs * d'.natAbs = A'.natAbs * d.natAbs := by rw [← Int.natAbs_mul, ← Int.natAbs_mul, h]
    obtain ⟨e1, e2⟩ := x_gcr (a := A.natAbs) (d := d.natAbs) (a' := A'.natAbs) (d' := d'.natAbs) (by omega) (by omega) hn
    have hs : ((false ^^ decide (A < 0)) ^^ decide (d < 0)) = ((false ^^ decide (A' < 0)) ^^ decide (d' < 0)) := by
      have h1 : x_sg A * x_sg d' = x_sg A' * x_sg d := by rw [← x_sgm, ← x_sgm, h]
      rcases x_sgl0 q with ⟨a1, a2⟩ | ⟨a1, a2⟩ <;> rcases x_sgl0 q' with ⟨b1, b2⟩ | ⟨b1, b2⟩ <;> rcases x_sgl0 hd with ⟨c1, c2⟩ | ⟨c1, c2⟩ <;> rcases x_sgl0 hd' with ⟨d1, d2⟩ | ⟨d1, d2⟩ <;> rw [a1, b1, c1, d1] <;> rw [a2, b2, c2, d2] at h1 <;> first | rfl | exact absurd h1 (by decide)
    unfold x_rt0
    rw [if_neg (show ¬ (A = 0 ∨ d = 0) from fun w => w.elim q hd), if_neg (show ¬ (A' = 0 ∨ d' = 0) from fun w => w.elim q' hd'), e1, e2, hs]
theorem x_mdI {p : Nat} (hp : p ≠ 0) (z : Int) : ((x_md p z).toNat : Int) = z % (p : Int) := by
  unfold x_md
  rw [if_neg hp]
  exact Int.toNat_of_nonneg (Int.emod_nonneg _ (by omega))
theorem x_mdv {p : Nat} (hp : p ≠ 0) {a b : Int} : x_md p a = x_md p b ↔ ∃ k, a = b + (p : Int) * k := by
  unfold x_md
  rw [if_neg hp, if_neg hp]
  constructor
  · intro h
    have h1 := Int.emod_add_mul_ediv a p
    have h2 := Int.emod_add_mul_ediv b p
    refine ⟨a / p - b / p, ?_⟩
    rw [h] at h1
    generalize a / (p : Int) = x at *
    generalize b / (p : Int) = y at *
    generalize b % (p : Int) = z at *
    have : (p : Int) * (x - y) = p * x - p * y := by grind
    omega
  · intro ⟨k, h⟩
    rw [h, Int.add_mul_emod_self_left]
theorem x_mdn {p : Nat} (hp : x_pm p) (p0 : p ≠ 0) {d : Int} (hd : ¬ x_md p d = 0) : ∃ k, d * (x_inv p (x_md p d).toNat : Int) = 1 + (p : Int) * k := by
  have hpp := hp.resolve_left p0
  have h1 : (x_md p d).toNat < p ∧ 0 < (x_md p d).toNat := by
    have e := x_mdI p0 d
    have l1 := Int.emod_nonneg d (show (p : Int) ≠ 0 by omega)
    have l2 := Int.emod_lt_of_pos d (show (0 : Int) < (p : Int) by omega)
    have l3 : ¬ d % (p : Int) = 0 := fun w => hd (by unfold x_md; rw [if_neg p0]; exact w)
    omega
  have h2 := (x_invs (hpp.2.2 _ h1.2 h1.1)).2
  have e := x_mdI p0 d
  generalize (x_md p d).toNat = a at *
  generalize x_inv p a = i at *
  have e1 : ((a * i : Nat) : Int) % (p : Int) = 1 := by
    have : ((a * i % p : Nat) : Int) = 1 := by rw [h2]; rfl
    rw [← this]; exact (Int.natCast_emod _ _).symm
  have e2 := Int.emod_add_mul_ediv ((a * i : Nat) : Int) p
  have e3 := Int.emod_add_mul_ediv d p
  rw [e1] at e2
  rw [← e] at e3
  rw [Int.natCast_mul] at e2
  generalize ((a : Nat) : Int) = x at *
  generalize ((i : Nat) : Int) = y at *
  generalize x * y / (p : Int) = z at *
  generalize d / (p : Int) = w at *
  refine ⟨z + w * y, ?_⟩
  rw [← e3]
  grind
theorem x_ratE {p : Nat} (hp : x_pm p) {A d A' d' : Int} (hd : ¬ x_md p d = 0) (hd' : ¬ x_md p d' = 0) (h : x_md p (A * d') = x_md p (A' * d)) : x_rat p A d = x_rat p A' d' := by
  by_cases p0 : p = 0
  · subst p0
    simp only [x_md0] at hd hd' h
    unfold x_rat
    rw [if_pos rfl, if_pos rfl]
    exact x_rtE hd hd' h
  · unfold x_rat
    rw [if_neg p0, if_neg p0]
    congr 1
    obtain ⟨k1, e1⟩ := x_mdn hp p0 hd
    obtain ⟨k2, e2⟩ := x_mdn hp p0 hd'
    obtain ⟨k3, e3⟩ := (x_mdv p0).1 h
    have eA := x_mdI p0 A
    have eA' := x_mdI p0 A'
    have fA := Int.emod_add_mul_ediv A p
    have fA' := Int.emod_add_mul_ediv A' p
    generalize x_inv p (x_md p d).toNat = i at *
    generalize x_inv p (x_md p d').toNat = i' at *
    generalize (x_md p A).toNat = a at *
    generalize (x_md p A').toNat = a' at *
    rw [← eA] at fA
    rw [← eA'] at fA'
    generalize A / (p : Int) = u at *
    generalize A' / (p : Int) = u' at *
    have key : ((a * i : Nat) : Int) % (p : Int) = ((a' * i' : Nat) : Int) % (p : Int) := by
      have : ((a * i : Nat) : Int) = ((a' * i' : Nat) : Int) + (p : Int) * (-(A * i * k2) + i * i' * k3 + A' * i' * k1 - u * i + u' * i') := by
        rw [Int.natCast_mul, Int.natCast_mul]
        generalize ((a : Nat) : Int) = x at *
        generalize ((a' : Nat) : Int) = x' at *
        generalize ((i : Nat) : Int) = y at *
        generalize ((i' : Nat) : Int) = y' at *
        generalize (p : Int) = P at *
        grind
      rw [this, Int.add_mul_emod_self_left]
    have key2 : ((a * i % p : Nat) : Int) = ((a' * i' % p : Nat) : Int) := by rw [Int.natCast_emod, Int.natCast_emod]; exact key
    exact Int.ofNat.inj key2
theorem x_rtn {neg : Bool} {A d : Int} : x_rt0 neg A d = x_rat 0 (if neg = true then -A else A) d := by
  unfold x_rat
  rw [if_pos rfl]
  cases neg with
  | false => rfl
  | true =>
    rw [if_pos rfl]
    by_cases q : A = 0 ∨ d = 0
    · have q' : -A = 0 ∨ d = 0 := q.elim (fun w => Or.inl (by omega)) Or.inr
      unfold x_rt0
      rw [if_pos q, if_pos q']
    · have q' : ¬ (-A = 0 ∨ d = 0) := fun w => q (w.elim (fun w => Or.inl (by omega)) Or.inr)
      unfold x_rt0
      rw [if_neg q, if_neg q', Int.natAbs_neg]
      have : (true ^^ decide (A < 0)) = (false ^^ decide (-A < 0)) := by
        by_cases w : A < 0
        · rw [decide_eq_true w, decide_eq_false (show ¬ -A < 0 by omega)]; rfl
        · rw [decide_eq_false w, decide_eq_true (show -A < 0 by omega)]; rfl
      rw [this]
theorem x_rtpn {p : Nat} {neg : Bool} {A d : Int} (p0 : p ≠ 0) : x_rtp p neg (x_md p A).toNat (x_md p d).toNat = x_rat p (if neg = true then -A else A) d := by
  unfold x_rat x_rtp
  rw [if_neg p0]
  cases neg with
  | false => rfl
  | true =>
    rw [if_pos rfl, if_pos rfl]
    congr 1
    have eA := x_mdI p0 A
    have eN := x_mdI p0 (-A)
    generalize x_inv p (x_md p d).toNat = i at *
    have fA := Int.emod_add_mul_ediv A p
    have fN := Int.emod_add_mul_ediv (-A) p
    rw [← eA] at fA
    rw [← eN] at fN
    generalize (x_md p A).toNat = a at *
    generalize (x_md p (-A)).toNat = a' at *
    generalize A / (p : Int) = u at *
    generalize -A / (p : Int) = u' at *
    have hl : a * i % p < p := Nat.mod_lt _ (by omega)
    have f1 := Int.emod_add_mul_ediv ((a * i : Nat) : Int) p
    have key : ((p - a * i % p : Nat) : Int) % (p : Int) = ((a' * i : Nat) : Int) % (p : Int) := by
      have c1 : ((p - a * i % p : Nat) : Int) = (p : Int) - ((a * i : Nat) : Int) % (p : Int) := by
        rw [← Int.natCast_emod]; omega
      generalize ((a * i : Nat) : Int) / (p : Int) = w at *
      have : ((p - a * i % p : Nat) : Int) = ((a' * i : Nat) : Int) + (p : Int) * (1 + w + u * i + u' * i) := by
        rw [c1]
        generalize ((a * i : Nat) : Int) % (p : Int) = m at *
        rw [Int.natCast_mul] at *
        generalize ((a : Nat) : Int) = x at *
        generalize ((a' : Nat) : Int) = x' at *
        generalize ((i : Nat) : Int) = y at *
        generalize (p : Int) = P at *
        grind
      rw [this, Int.add_mul_emod_self_left]
    have key2 : (((p - a * i % p) % p : Nat) : Int) = ((a' * i % p : Nat) : Int) := by rw [Int.natCast_emod, Int.natCast_emod]; exact key
    exact Int.ofNat.inj key2
