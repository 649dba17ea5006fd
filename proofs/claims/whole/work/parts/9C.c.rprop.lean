/-! PURE: a row of a form's space that is 0 on T is proportional to what the form leaves over at T -/
theorem x_prp {R : Type} [Lean.Grind.CommRing R] {v f : Nat → R} {T j e : Nat} (hj : j < 12) (hjT : T.testBit j = false) (he : e < 12) (hv : ∀ g, g < 12 → T.testBit g = true → v g = 0) (hw : ∀ S, x_w v f S = 0) : x_u f T j * v e = v j * x_u f T e := by
  have h := x_uw v f (x_t T j) e he
  have h0 : x_u (x_w v f) (x_t T j) e = 0 := by
    unfold x_u
    split
    · rfl
    · rw [hw]; grind
  have hs : x_sm 12 (fun g => if (x_t T j).testBit g = true then x_s R (x_od (x_t T j) g) * v g * x_u f (x_t (x_t T j) g) e else 0) = x_s R (x_od T j) * v j * x_u f T e := by
    rw [x_sm1 (k := j) 12 hj (fun g hg hn => ?_)]
    · rw [if_pos (by rw [x_tbs, hjT]; rfl), x_tt, x_odt j hj, decide_eq_false (Nat.lt_irrefl j), Bool.xor_false]
    · by_cases q : (x_t T j).testBit g = true
      · rw [if_pos q, hv g hg (by rw [x_tbn hn] at q; exact q)]; grind
      · rw [if_neg q]
  rw [h0, hs] at h
  have hu : x_u f T j = x_s R (x_od T j) * f (x_t T j) := by
    unfold x_u
    rw [if_neg (by rw [hjT]; exact Bool.noConfusion)]
  have hss := x_ss (R := R) (x_od T j)
  rw [hu]
  generalize x_s R (x_od T j) = s at *
  generalize f (x_t T j) = y at *
  generalize x_u f T e = z at *
  grind
/-- a primitive row is not greater than a row that it is proportional to -/
theorem x_prim {v u : Nat → Int} {n j0 : Nat} (hg : x_gc v n = 1) (hp : ∀ j e, j < n → e < n → u j * v e = v j * u e) (hj : j0 < n) (hu : ¬ u j0 = 0) : ∀ j, j < n → (v j).natAbs ≤ (u j).natAbs := by
  -- some v k is not 0 where u is not 0; u = c * v
  have hv0 : ¬ v j0 = 0 := fun q => by
    have : ∀ e, e < n → v e = 0 := fun e he => by
      have := hp j0 e hj he
      rw [q, Int.zero_mul] at this
      exact (Int.mul_eq_zero.1 this).resolve_left hu
    have : ∀ m, m ≤ n → x_gc v m = 0 := fun m => by
      induction m with
      | zero => intro _; rfl
      | succ m ih =>
        intro hm
        show Nat.gcd (x_gc v m) (v m).natAbs = 0
        rw [ih (by omega), this m (by omega)]; rfl
    rw [this n (Nat.le_refl n)] at hg
    exact absurd hg (by decide)
  intro j hjn
  by_cases q : u j = 0
  · have := hp j j0 hjn hj
    rw [q, Int.zero_mul] at this
    rw [(Int.mul_eq_zero.1 this.symm).resolve_right hu]
    exact Nat.zero_le _
  · -- |v j0| divides u j0 * gcd = u j0
    have key : ∀ m, m ≤ n → ((v j0).natAbs ∣ (u j0).natAbs * x_gc v m) := fun m => by
      induction m with
      | zero => intro _; exact ⟨0, rfl⟩
      | succ m ih =>
        intro hm
        show (v j0).natAbs ∣ (u j0).natAbs * Nat.gcd (x_gc v m) (v m).natAbs
        rw [← Nat.gcd_mul_left]
        refine Nat.dvd_gcd (ih (by omega)) ?_
        rw [← Int.natAbs_mul, hp j0 m hj (by omega), Int.natAbs_mul]
        exact ⟨_, rfl⟩
    have hd := key n (Nat.le_refl n)
    rw [hg, Nat.mul_one] at hd
    obtain ⟨c, hc⟩ := hd
    have h1 : (u j0).natAbs * (v j).natAbs = (v j0).natAbs * (u j).natAbs := by
      rw [← Int.natAbs_mul, ← Int.natAbs_mul, hp j0 j hj hjn]
    rw [hc, Nat.mul_assoc] at h1
    have h2 : c * (v j).natAbs = (u j).natAbs := Nat.eq_of_mul_eq_mul_left (by omega) h1
    have hc0 : 0 < c := Nat.pos_of_ne_zero (fun z => by rw [z, Nat.zero_mul] at h2; omega)
    rw [← h2]
    exact Nat.le_mul_of_pos_left _ hc0
theorem x_gcm {v w : Nat → Int} {g : Nat} : ∀ m, (∀ j, j < m → v j = (g : Int) * w j) → x_gc v m = g * x_gc w m
  | 0, _ => rfl
  | m + 1, h => by
    show Nat.gcd (x_gc v m) (v m).natAbs = g * Nat.gcd (x_gc w m) (w m).natAbs
    rw [x_gcm m (fun j hj => h j (by omega)), h m (by omega), Int.natAbs_mul, Int.natAbs_natCast, Nat.gcd_mul_left]
/-- a shortened row is primitive, or 0 -/
theorem x_shog {v : Nat → Int} {n : Nat} : x_gc (x_sho n v) n = 1 ∨ ∀ j, j < n → x_sho n v j = 0 := by
  by_cases q : x_gc v n = 0
  · refine Or.inr (fun j hj => ?_)
    unfold x_sho
    rw [if_pos q]
    exact x_gc0 n q j hj
  · refine Or.inl ?_
    have h := x_gcm (v := v) (w := x_sho n v) (g := x_gc v n) n (fun j hj => by
      unfold x_sho
      rw [if_neg q]
      exact (Int.mul_tdiv_cancel' (x_gcd n j hj)).symm)
    refine Nat.eq_of_mul_eq_mul_left (Nat.pos_of_ne_zero q) ?_
    rw [← h, Nat.mul_one]
