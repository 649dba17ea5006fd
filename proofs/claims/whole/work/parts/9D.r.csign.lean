/-! PURE: the class's signs are those of the ghost form -/
section CSG
variable {p n r : Nat} {g : Nat → Int} {pI : Int32}
/-- what turnFirstUp makes of signs that are those of F, up to a factor -/
theorem x_tuS {F s : Nat → Int32} (hn : n ≤ 12) (hpI : pI = 0 ↔ p = 0) (hne : ∃ S, S < 2 ^ n ∧ x_n S = r ∧ ¬ F S = 0) (hz : ∀ S, S < 2 ^ n → ¬ x_n S = r → s S = 0) (h0 : p = 0 → ∃ τ : Int32, (τ = 1 ∨ τ = -1) ∧ ∀ S, S < 2 ^ n → x_n S = r → s S = τ * F S) (hp : p ≠ 0 → ∀ S, S < 2 ^ n → x_n S = r → (F S = 0 ∨ F S = 1) ∧ (s S = F S ∨ s S = - F S)) : ∀ S, S < 2 ^ n → x_tu pI (x_f1 s n r) (s S) = x_sgn2 p n r F S := fun S hS => by
  unfold x_tu x_sgn2
  by_cases q : x_n S = r
  · rw [if_pos q]
    by_cases p0 : p = 0
    · rw [if_pos (hpI.2 p0), if_pos p0]
      obtain ⟨τ, hτ, hs⟩ := h0 p0
      have hzz : ∀ S, S < 2 ^ n → x_n S = r → (s S = 0 ↔ F S = 0) := fun S a1 a2 => by
        rw [hs S a1 a2]
        rcases hτ with w | w
        · rw [w, Int32.one_mul]
        · rw [w]
          constructor
          · intro z
            have : (-1 : Int32) * ((-1) * F S) = 0 := by rw [z]; decide
            rw [← Int32.mul_assoc, show (-1 : Int32) * (-1) = 1 by decide, Int32.one_mul] at this
            exact this
          · intro z; rw [z]; decide
      obtain ⟨S1, f1, e1⟩ := x_fstE hn hne
      obtain ⟨S2, f2, e2⟩ := x_f1E (F := s) hn (by
        obtain ⟨T, t1, t2, t3⟩ := hne
        exact ⟨T, t1, t2, fun w => t3 ((hzz T t1 t2).1 w)⟩)
      have f2' : x_Fi n r F S2 := ⟨f2.1, f2.2.1, fun w => f2.2.2.1 ((hzz _ f2.1 f2.2.1).2 w), fun T t1 t2 t3 => f2.2.2.2 T t1 t2 (fun w => t3 ((hzz T t1 t2).1 w))⟩
      have e3 := x_Fiu hn f1 f2'
      subst e3
      rw [e1, e2, hs S hS q, hs S1 f1.1 f1.2.1]
      have hττ : τ * τ = 1 := by rcases hτ with w | w <;> rw [w] <;> decide
      generalize F S1 = x
      generalize F S = y
      have : τ * x * (τ * y) = (τ * τ) * (y * x) := by grind
      rw [this, hττ, Int32.one_mul]
    · rw [if_neg (fun w => p0 (hpI.1 w)), if_neg p0]
      obtain ⟨b1, b2⟩ := hp p0 S hS q
      rcases b1 with w | w
      · rw [w] at b2 ⊢
        rcases b2 with z | z
        · rw [z]; decide
        · rw [z]; decide
      · rw [w] at b2 ⊢
        rcases b2 with z | z
        · rw [z]; decide
        · rw [z]; decide
  · rw [if_neg q, hz S hS q]
    split
    · exact Int32.mul_zero
    · decide
/-- the values are 0 or not as the form is -/
theorem x_Fgz (S : Nat) : x_Fg p g S = 0 ↔ x_md p (g S) = 0 := by
  unfold x_Fg
  by_cases p0 : p = 0
  · rw [if_pos p0, p0, x_md0]
    unfold x_sg
    by_cases q : g S < 0
    · rw [if_pos q]; exact ⟨fun w => absurd w (by decide), fun w => by omega⟩
    · rw [if_neg q]
      by_cases q2 : g S = 0
      · rw [if_pos q2]; exact ⟨fun _ => q2, fun _ => rfl⟩
      · rw [if_neg q2]; exact ⟨fun w => absurd w (by decide), fun w => absurd w q2⟩
  · rw [if_neg p0]
    by_cases q : x_md p (g S) = 0
    · rw [if_pos q]; exact ⟨fun _ => q, fun _ => rfl⟩
    · rw [if_neg q]; exact ⟨fun w => absurd w (by decide), fun w => absurd w q⟩
theorem x_Fgn (hg : x_gh p n r g) : ∃ S, S < 2 ^ n ∧ x_n S = r ∧ ¬ x_Fg p g S = 0 := by
  obtain ⟨S, hS⟩ := hg.2.2.1
  exact ⟨S, (hg.2.1 S hS).1, (hg.2.1 S hS).2, fun q => hS ((x_Fgz S).1 q)⟩
theorem x_Fgp (hp : p ≠ 0) (S : Nat) : x_Fg p g S = 0 ∨ x_Fg p g S = 1 := by
  unfold x_Fg
  rw [if_neg hp]
  split
  · exact Or.inl rfl
  · exact Or.inr rfl
/-- the factor that turns the first sign up -/
theorem x_sgx (hn : n ≤ 12) (hg : x_gh 0 n r g) : ∃ τ : Int32, (τ = 1 ∨ τ = -1) ∧ ∀ S, x_n S = r → x_sgn2 0 n r (x_Fg 0 g) S = τ * x_Fg 0 g S := by
  obtain ⟨S1, f1, e1⟩ := x_fstE hn (x_Fgn hg)
  refine ⟨x_fst n r (x_Fg 0 g) 4096, ?_, fun S hS => ?_⟩
  · rw [e1]
    have h1 := f1.2.2.1
    have e2 : x_Fg 0 g S1 = x_sg (g S1) := rfl
    rw [e2] at h1 ⊢
    exact x_sg1 (fun q => h1 (by rw [q]; rfl))
  · unfold x_sgn2
    rw [if_pos hS, if_pos rfl, Int32.mul_comm]
/-- span -/
theorem x_sgS {Z : Nat → Int} (hn : n ≤ 12) (hpI : pI = 0 ↔ p = 0) (hg : x_gh p n r g) (hZ : ∀ S, S < 2 ^ n → x_n S = r → Z S = x_md p (g S)) : ∀ S, S < 2 ^ n → x_tu pI (x_f1 (x_ssg Z r) n r) (x_ssg Z r S) = x_sgn2 p n r (x_Fg p g) S := by
  refine x_tuS hn hpI (x_Fgn hg) (fun S _ q => by unfold x_ssg; rw [if_neg q]) (fun p0 => ⟨1, Or.inl rfl, fun S hS q => ?_⟩) (fun p0 S hS q => ⟨x_Fgp p0 S, Or.inl ?_⟩)
  · subst p0
    unfold x_ssg
    rw [if_pos q, hZ S hS q, x_md0, Int32.one_mul]; rfl
  · unfold x_ssg
    rw [if_pos q, hZ S hS q]
    unfold x_Fg x_sg
    rw [if_neg p0]
    have h1 : 0 ≤ x_md p (g S) := by
      unfold x_md
      rw [if_neg p0]
      exact Int.emod_nonneg _ (by omega)
    rw [if_neg (by omega)]
theorem b_sgs (q : Bool) (z : Int) : x_sg (x_s Int q * z) = if q = true then - x_sg z else x_sg z := by
  cases q
  · rw [if_neg Bool.noConfusion]
    show x_sg (1 * z) = _
    rw [Int.one_mul]
  · rw [if_pos rfl]
    show x_sg (-1 * z) = _
    rw [x_sgm]
    show (-1 : Int32) * x_sg z = - x_sg z
    rw [Int32.neg_mul, Int32.one_mul]
/-- dual -/
theorem x_sgT (hp : x_pm p) (hpI : pI = 0 ↔ p = 0) (hg : x_gh p n r g) : ∀ S, S < 2 ^ n → x_tu pI (x_f1 (x_sdu n (x_sgn2 p n r (x_Fg p g))) n (n - r)) (x_sdu n (x_sgn2 p n r (x_Fg p g)) S) = x_sgn2 p n (n - r) (x_Fg p (x_fd n g)) S := by
  have hn := hg.1
  have hg' := x_duG hp hg
  have hsz : ∀ S, S < 2 ^ n → (x_n (x_co n S) = r ↔ x_n S = n - r) := fun S hS => by
    have h1 := x_nco hn hS
    have h2 : r ≤ n := by
      obtain ⟨T, t1, t2, t3⟩ := x_Fgn hg
      have := x_nlen hn t1
      omega
    omega
  refine x_tuS hn hpI (x_Fgn hg') (fun S hS q => ?_) (fun p0 => ?_) (fun p0 S hS q => ⟨x_Fgp p0 S, ?_⟩)
  · have h1 : x_sgn2 p n r (x_Fg p g) (x_co n S) = 0 := by
      unfold x_sgn2
      rw [if_neg (fun w => q ((hsz S hS).1 w))]
    unfold x_sdu
    rw [h1]
    split <;> rfl
  · subst p0
    obtain ⟨τ, hτ, hs⟩ := x_sgx hn hg
    refine ⟨τ, hτ, fun S hS q => ?_⟩
    have e1 : x_Fg 0 (x_fd n g) S = if x_oe S = true then - x_Fg 0 g (x_co n S) else x_Fg 0 g (x_co n S) := by
      show x_sg (x_fd n g S) = if x_oe S = true then - x_sg (g (x_co n S)) else x_sg (g (x_co n S))
      unfold x_fd
      rw [if_pos hS, b_sgs]
    unfold x_sdu
    rw [e1, hs _ ((hsz S hS).2 q)]
    split
    · exact (Int32.mul_neg _ _).symm
    · rfl
  · have e1 : x_Fg p (x_fd n g) S = x_Fg p g (x_co n S) := by
      unfold x_Fg
      rw [if_neg p0, if_neg p0]
      have e2 : x_md p (x_fd n g S) = 0 ↔ x_md p (g (x_co n S)) = 0 := by
        unfold x_fd
        rw [if_pos hS, x_mds hp]
      simp only [e2]
    have e3 : x_sgn2 p n r (x_Fg p g) (x_co n S) = x_Fg p g (x_co n S) := by
      unfold x_sgn2
      rw [if_pos ((hsz S hS).2 q), if_neg p0]
    unfold x_sdu
    rw [e1, e3]
    split
    · exact Or.inr rfl
    · exact Or.inl rfl
/-- minors -/
theorem x_sgR {n' U W : Nat} {k : Nat → Nat} (hp : x_pm p) (hpI : pI = 0 ↔ p = 0) (hg : x_gh p n r g) (hS : W < 2 ^ n) (hU : U < 2 ^ n) (hUS : ∀ e, U.testBit e = true → W.testBit e = true) (hk : x_kp (x_co n W) n' k) (hn' : n' ≤ 12) (hUr : x_n U ≤ r) (hg' : x_gh p n' (r - x_n U) (x_fr n' k U g)) : ∀ S, S < 2 ^ n' → x_tu pI (x_f1 (x_sre n' k U (x_sgn2 p n r (x_Fg p g))) n' (r - x_n U)) (x_sre n' k U (x_sgn2 p n r (x_Fg p g)) S) = x_sgn2 p n' (r - x_n U) (x_Fg p (x_fr n' k U g)) S := by
  have hn := hg.1
  have hsz : ∀ S, S < 2 ^ n' → (x_n (x_sd n' k S ||| U) = r ↔ x_n S = r - x_n U) := fun S hS' => by
    rw [x_ndis (fun i _ hb => Bool.eq_false_iff.2 (fun w => by
      have h2 := (x_cobS hS).1 (x_sdK hk hb)
      rw [hUS _ w] at h2; exact Bool.noConfusion h2.2)), x_sdcn hn' hk.1 hS']
    omega
  refine x_tuS hn' hpI (x_Fgn hg') (fun S hS' q => ?_) (fun p0 => ?_) (fun p0 S hS' q => ⟨x_Fgp p0 S, ?_⟩)
  · have h1 : x_sgn2 p n r (x_Fg p g) (x_sd n' k S ||| U) = 0 := by
      unfold x_sgn2
      rw [if_neg (fun w => q ((hsz S hS').1 w))]
    unfold x_sre
    rw [h1]
    split <;> rfl
  · subst p0
    obtain ⟨τ, hτ, hs⟩ := x_sgx hn hg
    refine ⟨τ, hτ, fun S hS' q => ?_⟩
    have e1 : x_Fg 0 (x_fr n' k U g) S = if x_il (x_sd n' k S) U = true then - x_Fg 0 g (x_sd n' k S ||| U) else x_Fg 0 g (x_sd n' k S ||| U) := by
      show x_sg (x_fr n' k U g S) = if x_il (x_sd n' k S) U = true then - x_sg (g (x_sd n' k S ||| U)) else x_sg (g (x_sd n' k S ||| U))
      unfold x_fr
      rw [if_pos hS', b_sgs]
    unfold x_sre
    rw [e1, hs _ ((hsz S hS').2 q)]
    split
    · exact (Int32.mul_neg _ _).symm
    · rfl
  · have e1 : x_Fg p (x_fr n' k U g) S = x_Fg p g (x_sd n' k S ||| U) := by
      unfold x_Fg
      rw [if_neg p0, if_neg p0]
      have e2 : x_md p (x_fr n' k U g S) = 0 ↔ x_md p (g (x_sd n' k S ||| U)) = 0 := by
        unfold x_fr
        rw [if_pos hS', x_mds hp]
      simp only [e2]
    have e3 : x_sgn2 p n r (x_Fg p g) (x_sd n' k S ||| U) = x_Fg p g (x_sd n' k S ||| U) := by
      unfold x_sgn2
      rw [if_pos ((hsz S hS').2 q), if_neg p0]
    unfold x_sre
    rw [e1, e3]
    split
    · exact Or.inr rfl
    · exact Or.inl rfl
end CSG
