/-! PURE: a prime to 251 gives every number an inverse -/
set_option maxRecDepth 100000 in
theorem x_hexp : ∀ p, p < 252 → 2 ≤ p → t_pl p 16 2 = true → ∀ a, a < p → a = 0 ∨ a * (a ^ (p - 2) % p) % p = 1 := by decide +kernel
theorem x_hex {v : Int32} (h : t_prm v = true) : ∃ p, v = nI p ∧ 1 < p ∧ p < 252 ∧ ∀ a, 0 < a → a < p → ∃ b, b < p ∧ a * b % p = 1 := by
  unfold t_prm at h
  by_cases q : v < 2 ∨ 251 < v
  · rw [if_pos q] at h; exact Bool.noConfusion h
  · rw [if_neg q] at h
    have q1 : ¬ v < 2 := fun z => q (Or.inl z)
    have q2 : ¬ 251 < v := fun z => q (Or.inr z)
    obtain ⟨p, hp, ep⟩ := nI_of (x := v) (fun z => q1 (Int32.lt_trans z (by decide)))
    subst ep
    have h1 : 2 ≤ p := Classical.byContradiction (fun z => q1 (show nI p < nI 2 from nI_lt (by omega) (by decide)))
    have h2 : p < 252 := Classical.byContradiction (fun z => q2 (show nI 251 < nI p from nI_lt (by omega) hp))
    rw [nI_clamp hp] at h
    refine ⟨p, rfl, by omega, h2, fun a a1 a2 => ⟨a ^ (p - 2) % p, Nat.mod_lt _ (by omega), ?_⟩⟩
    exact (x_hexp p h2 h1 h a a2).resolve_left (by omega)
