/-! PURE, the reference: determinant, from its copying on -/
section RDC
variable {nv : Nat → px_NV} {iv fr fc : Nat → Int32} {n : Nat} {A : Nat → Nat → Int} {ro co : Nat → Nat}
theorem r_detQ {post : Int32 → (Nat → Int32) → (Nat → Int32) → (Nat → Int32) → (Nat → px_NV) → Prop} (hn : n ≤ 6) (hro : ∀ i, i < n → ro i < 13 ∧ fr i = nI (ro i)) (hco : ∀ j, j < n → co j < 12 ∧ fc j = nI (co j)) (hA : ∀ i j, i < n → j < n → pn_N (nv (12 * ro i + co j)) (A i j)) (hB : ∀ i, i < n → ∀ e, e < 12 → (A i e).natAbs < 65536 ^ 9) (h : ∀ nv', (∀ d, d < 156 → nv' d = nv d) → post (x_sg (x_d A n)) iv fr fc nv') : w61_wp post (nI n) iv fr fc nv := by
  have rows : ∀ (u i : Nat) (nv1 : Nat → px_NV), i + u = n → (∀ d, d < 156 → nv1 d = nv d) → (∀ i' j', i' < i → j' < n → pn_N (nv1 (156 + (6 * i' + j'))) (A i' j')) → w61_L2 post (u + 1) (nI n) (nI i) iv fr fc nv1 := by
    intro u
    induction u with
    | zero =>
      intro i nv1 hi h1 h2
      have : i = n := by omega
      subst this
      refine ⟨fun _ => ⟨i + 1, ?_⟩, fun w => absurd (nI_le (Nat.le_refl i) (by omega)) w⟩
      refine r_dM (nv0 := nv) (A := A) hn h i 0 A false nv1 (by omega) ⟨h1, fun z => absurd z (Nat.lt_irrefl 0), fun k j hk hj => ⟨_, h2 k j hk hj⟩, fun k j _ hk _ hj => by rw [x_mu0 A (by omega)]; exact h2 k j hk hj, by rw [x_d0]; decide, hB, by show _ = 1 * _; rw [Int.one_mul]⟩
    | succ u ih =>
      intro i nv1 hi h1 h2
      refine ⟨fun w => absurd w (nI_ge (by omega) (by omega)), fun _ => ⟨n + 1, ?_⟩⟩
      have cols : ∀ (v j : Nat) (nv2 : Nat → px_NV), j + v = n → (∀ d, d < 156 → nv2 d = nv d) → (∀ i' j', i' < n → j' < n → (i' < i ∨ (i' = i ∧ j' < j)) → pn_N (nv2 (156 + (6 * i' + j'))) (A i' j')) → w61_L9 (w61_L2 post (u + 1)) post (v + 1) (nI n) (nI i) (nI j) iv fr fc nv2 := by
        intro v
        induction v with
        | zero =>
          intro j nv2 hj g1 g2
          have : j = n := by omega
          subst this
          refine ⟨fun _ z ez => ?_, fun w => absurd (nI_le (Nat.le_refl j) (by omega)) w⟩
          rw [ez, nI_1]
          exact ih (i + 1) nv2 (by omega) g1 (fun i' j' q1 q2 => g2 i' j' (by omega) q2 (by omega))
        | succ v ihv =>
          intro j nv2 hj g1 g2
          obtain ⟨r1, r2⟩ := hro i (by omega)
          obtain ⟨c1, c2⟩ := hco j (by omega)
          unfold w61_L9
          rw [b_ix6 (i := i) (j := j), nI_clamp (show 6 * i + j < 2 ^ 31 by omega), nI_clamp (show i < 2 ^ 31 by omega), nI_clamp (show j < 2 ^ 31 by omega), r2, c2]
          refine ⟨fun w => absurd w (nI_ge (by omega) (by omega)), fun _ => ⟨b_in (by omega) (by omega), b_in (by omega) (by omega), b_in (by omega) (by omega), r_at r1 c1 ?_⟩⟩
          refine pn_cpP (by omega) (by omega) (by omega) (by rw [g1 _ (by omega)]; exact hA i j (by omega) (by omega)) (fun nv3 k3 r3 z ez => ?_)
          rw [ez, nI_1]
          refine ihv (j + 1) nv3 (by omega) (fun d hd => by rw [k3 d (by omega)]; exact g1 d hd) (fun i' j' q1 q2 q3 => ?_)
          by_cases q : i' = i ∧ j' = j
          · rw [q.1, q.2]; exact r3
          · rw [k3 _ (by omega)]; exact g2 i' j' q1 q2 (by omega)
      exact cols n 0 nv1 (by omega) h1 (fun i' j' q1 q2 q3 => h2 i' j' (by omega) q2)
  exact ⟨n + 1, rows n 0 nv (by omega) (fun _ _ => rfl) (fun i' j' q => absurd q (Nat.not_lt_zero i'))⟩
end RDC
