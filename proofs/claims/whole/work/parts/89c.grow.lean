/-! PURE: elements taken, as they rise, that raise the rank; the set of which nothing raises it any more spans all -/
def x_ra (b : Nat → Bool) (set : Nat) : Nat → Nat → Nat
  | 0, g => g
  | k + 1, g => if set.testBit k = true ∧ (x_ra b set k g).testBit k = false ∧ x_rk b (x_ra b set k g) < x_rk b (x_t (x_ra b set k g) k) then x_t (x_ra b set k g) k else x_ra b set k g
section XG
variable {n r : Nat} {b : Nat → Bool} {set g : Nat}
theorem x_ras : ∀ (k i : Nat), g.testBit i = true → (x_ra b set k g).testBit i = true
  | 0, i, h => h
  | k + 1, i, h => by
    have ih := x_ras k i h
    unfold x_ra
    by_cases q : set.testBit k = true ∧ (x_ra b set k g).testBit k = false ∧ x_rk b (x_ra b set k g) < x_rk b (x_t (x_ra b set k g) k)
    · rw [if_pos q, x_tbn (fun z => by rw [z, q.2.1] at ih; exact Bool.noConfusion ih), ih]
    · rw [if_neg q, ih]
theorem x_rab : ∀ (k i : Nat), (x_ra b set k g).testBit i = true → g.testBit i = true ∨ (i < k ∧ set.testBit i = true)
  | 0, i, h => Or.inl h
  | k + 1, i, h => by
    unfold x_ra at h
    by_cases q : set.testBit k = true ∧ (x_ra b set k g).testBit k = false ∧ x_rk b (x_ra b set k g) < x_rk b (x_t (x_ra b set k g) k)
    · rw [if_pos q] at h
      by_cases z : i = k
      · exact Or.inr ⟨by omega, z ▸ q.1⟩
      · rw [x_tbn z] at h
        rcases x_rab k i h with h | h
        · exact Or.inl h
        · exact Or.inr ⟨by omega, h.2⟩
    · rw [if_neg q] at h
      rcases x_rab k i h with h | h
      · exact Or.inl h
      · exact Or.inr ⟨by omega, h.2⟩
theorem x_ral {m : Nat} (hm : 12 ≤ m) (hg : g < 2 ^ m) : ∀ (k : Nat), k ≤ 12 → x_ra b set k g < 2 ^ m
  | 0, _ => hg
  | k + 1, hk => by
    have ih := x_ral hm hg k (by omega)
    unfold x_ra
    by_cases q : set.testBit k = true ∧ (x_ra b set k g).testBit k = false ∧ x_rk b (x_ra b set k g) < x_rk b (x_t (x_ra b set k g) k)
    · rw [if_pos q]; exact x_tl ih (by omega)
    · rw [if_neg q]; exact ih
theorem x_rar (h : x_M n r b) : ∀ (k : Nat), k ≤ 12 → x_rk b (x_ra b set k g) + x_n g = x_rk b g + x_n (x_ra b set k g)
  | 0, _ => rfl
  | k + 1, hk => by
    have ih := x_rar h k (by omega)
    unfold x_ra
    by_cases q : set.testBit k = true ∧ (x_ra b set k g).testBit k = false ∧ x_rk b (x_ra b set k g) < x_rk b (x_t (x_ra b set k g) k)
    · rw [if_pos q]
      have h1 := x_rk1 h (S := x_ra b set k g) (show k < 12 by omega) q.2.1
      have h2 := x_nt0 (S := x_ra b set k g) (show k < 12 by omega) q.2.1
      have h3 := q.2.2
      omega
    · rw [if_neg q]; exact ih
theorem x_rac (h : x_M n r b) : ∀ (k : Nat), k ≤ 12 → ∀ e, e < k → set.testBit e = true → (x_ra b set k g).testBit e = false → x_rk b (x_t (x_ra b set k g) e) = x_rk b (x_ra b set k g)
  | 0, _, e, he, _, _ => by omega
  | k + 1, hk, e, he, hs, hb => by
    have ih := x_rac h k (by omega)
    unfold x_ra at hb ⊢
    by_cases q : set.testBit k = true ∧ (x_ra b set k g).testBit k = false ∧ x_rk b (x_ra b set k g) < x_rk b (x_t (x_ra b set k g) k)
    · rw [if_pos q] at hb ⊢
      have hek : e ≠ k := fun z => by rw [z, x_tbs, q.2.1] at hb; exact Bool.noConfusion hb
      have hb' := hb
      rw [x_tbn hek] at hb
      refine x_clo h (X := x_ra b set k g) (show e < 12 by omega) (fun i hi hbi => ?_) hb' (ih e (by omega) hs hb)
      rw [x_tbn (fun z => by rw [z, q.2.1] at hbi; exact Bool.noConfusion hbi), hbi]
    · rw [if_neg q] at hb ⊢
      by_cases hek : e = k
      · subst hek
        have h0 := x_rk0 h (S := x_ra b set e g) (e := e) (by omega) hb
        have : ¬ x_rk b (x_ra b set e g) < x_rk b (x_t (x_ra b set e g) e) := fun z => q ⟨hs, hb, z⟩
        omega
      · exact ih e (by omega) hs hb
theorem x_span (h : x_M n r b) {G : Nat} (hG : ∀ e, e < 12 → set.testBit e = true → G.testBit e = false → x_rk b (x_t G e) = x_rk b G) : ∀ (k T : Nat), x_df T G = k → (∀ i, i < 12 → G.testBit i = true → T.testBit i = true) → (∀ i, i < 12 → T.testBit i = true → G.testBit i = true ∨ set.testBit i = true) → x_rk b T = x_rk b G
  | 0, T, hk, h1, _ => Nat.le_antisymm (x_rkm h (x_df0 hk)) (x_rkm h h1)
  | k + 1, T, hk, h1, h2 => by
    obtain ⟨e, he, b1, b2⟩ := x_dfp (S := T) (T := G) (by omega)
    have hset : set.testBit e = true := by
      rcases h2 e he b1 with z | z
      · rw [z] at b2; exact Bool.noConfusion b2
      · exact z
    have hdf : x_df T G = x_df (x_t T e) G + 1 := x_cnf 12 he (by show (T.testBit e && !G.testBit e) = true; rw [b1, b2]; rfl) (by show ((x_t T e).testBit e && !G.testBit e) = false; rw [x_tbs, b1]; rfl) (fun i _ hn => by
      show (T.testBit i && !G.testBit i) = ((x_t T e).testBit i && !G.testBit i)
      rw [x_tbn hn])
    have sub : ∀ i, i < 12 → G.testBit i = true → (x_t T e).testBit i = true := fun i hi hb => by
      rw [x_tbn (fun z => by rw [z, b2] at hb; exact Bool.noConfusion hb), h1 i hi hb]
    have ih := x_span h hG k (x_t T e) (by omega) sub (fun i hi hb => by
      by_cases z : i = e
      · rw [z, x_tbs, b1] at hb; exact Bool.noConfusion hb
      · rw [x_tbn z] at hb; exact h2 i hi hb)
    have hc := x_clo h (X := G) (Y := x_t T e) he sub (by rw [x_tbs, b1]; rfl) (hG e he hset b2)
    rw [x_tt] at hc
    rw [hc, ih]
end XG
