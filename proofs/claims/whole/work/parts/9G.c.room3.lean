/-! PURE: room, what is made -/
theorem x_rok0 : x_rok x_g0 := by
  refine ⟨⟨4, rfl⟩, by decide, by decide, ⟨4, rfl⟩, by decide, by decide, Or.inl rfl, fun k hk => ?_⟩
  have e : x_g0 (20 + k) = 16 := by
    unfold x_g0
    rw [if_pos (by omega)]
  rw [e]
  exact ⟨by decide, 4, by decide⟩
section XHM
variable {lt : Nat → Option x_LR} {sk : Nat → Nat → Nat} {st lo lm lw : Nat} {U : List Nat} {A B C : x_LR} {f tg : Nat}
theorem x_f0r (h : x_HG (lt, sk, st, lo, lm, lw, U)) : x_rok (x_f0 sk) ∧ x_W7 (sk 26) ≤ x_W7 (x_f0 sk) := by
  have h1 : (∀ k, sk 26 k = 0) ∨ x_rok (sk 26) := h.1 26 (by decide)
  unfold x_f0
  by_cases q : sk 26 6 = 0
  · rw [if_pos q]
    rcases h1 with z | z
    · rw [x_W70 z]; exact ⟨x_rok0, Nat.zero_le _⟩
    · have := z.2.1; omega
  · rw [if_neg q]
    rcases h1 with z | z
    · exact absurd (z 6) q
    · exact ⟨z, Nat.le_refl _⟩
theorem x_rA6 {g : Nat → Nat} {n : Nat} (h : x_rok g) (hn : n ≤ 12) : x_rkA n (x_g6 n g) ∧ (if 2 ^ n ≤ g 6 then 0 else 2 ^ n) + 2 * x_W7 g ≤ 2 * x_W7 (x_g6 n g) := by
  obtain ⟨p6, a6, b6, p7, a7, b7, h8, h4⟩ := h
  have hp := x_p12 hn
  have e6 : x_g6 n g 6 = max (g 6) (2 ^ n) := rfl
  have eo : ∀ k, k ≠ 6 → k < 29 → x_g6 n g k = g k := fun k hk hk2 => by unfold x_g6; rw [if_neg hk, if_neg (by omega)]
  have ez : ∀ k, 29 ≤ k → x_g6 n g k = 0 := fun k hk => by unfold x_g6; rw [if_neg (by omega), if_pos hk]
  have eW : x_W7 (x_g6 n g) + g 6 = x_W7 g + max (g 6) (2 ^ n) := by
    unfold x_W7
    rw [e6, eo 7 (by decide) (by decide), eo 8 (by decide) (by decide), eo 20 (by decide) (by decide), eo 21 (by decide) (by decide), eo 22 (by decide) (by decide), eo 23 (by decide) (by decide)]
    omega
  refine ⟨⟨⟨by rw [e6]; exact c_p2m p6, by rw [e6]; omega, by rw [e6]; omega, by rw [eo 7 (by decide) (by decide)]; exact p7, by rw [eo 7 (by decide) (by decide)]; exact a7, by rw [eo 7 (by decide) (by decide)]; exact b7, by rw [eo 8 (by decide) (by decide)]; exact h8, fun k hk => by rw [eo (20 + k) (by omega) (by omega)]; exact h4 k hk⟩, fun k hk hz => absurd (ez (30 + k) (by omega)) hz⟩, ?_⟩
  clear h4
  by_cases q : 2 ^ n ≤ g 6
  · rw [if_pos q]
    clear p6 p7
    omega
  · rw [if_neg q]
    have := c_p2d p6 ⟨n, rfl⟩ (by omega)
    clear p6 p7
    omega
theorem x_lnR {n : Nat} (hn : n ≤ 12) (h : c_p2 lo) (hl : lo ≤ 8192) : c_p2 (o_ln lo n) ∧ o_ln lo n ≤ 8192 ∧ (if 2 ^ (n + 1) ≤ lo then 0 else 2 ^ (n + 1)) + 2 * lo ≤ 2 * o_ln lo n := by
  have hp : 2 ^ (n + 1) ≤ 8192 := Nat.pow_le_pow_right (n := 2) (by decide) (show n + 1 ≤ 13 by omega)
  unfold o_ln
  by_cases q : 2 ^ (n + 1) ≤ lo
  · rw [if_pos q, if_pos q]; exact ⟨h, hl, by omega⟩
  · rw [if_neg q, if_neg q]
    have := c_p2d h ⟨n + 1, rfl⟩ (by omega)
    exact ⟨⟨n + 1, rfl⟩, hp, by omega⟩
theorem x_lmR {n : Nat} (hn : n ≤ 12) (h : c_p2 lm) (h16 : 16 ≤ lm) (hl : lm ≤ 4096) : c_p2 (max lm (2 ^ n)) ∧ 16 ≤ max lm (2 ^ n) ∧ max lm (2 ^ n) ≤ 4096 ∧ (if 2 ^ n ≤ lm then 0 else 3 * 2 ^ n) + 6 * lm ≤ 6 * max lm (2 ^ n) := by
  have hp := x_p12 hn
  refine ⟨c_p2m h, by omega, by omega, ?_⟩
  by_cases q : 2 ^ n ≤ lm
  · rw [if_pos q]; omega
  · rw [if_neg q]
    have := c_p2d h ⟨n, rfl⟩ (by omega)
    omega
/-- the spare's row comes to the target, the target's row to the spare -/
theorem x_HGm {num : Bool} (h : x_HG (lt, sk, st, lo, lm, lw, U)) (ht : tg < 26) (hn : C.2.1 ≤ 12) : x_HG (va_up lt tg (some C), va_up (va_up sk 26 (sk tg)) tg (x_g6 C.2.1 (x_f0 sk)), st + 1, o_ln lo C.2.1, (if num = true then max lm (2 ^ C.2.1) else lm), lw, U) ∧
    (if 2 ^ C.2.1 ≤ x_f0 sk 6 then 0 else 2 ^ C.2.1) + (if 2 ^ (C.2.1 + 1) ≤ lo then 0 else 2 ^ (C.2.1 + 1)) + (if num = true then (if 2 ^ C.2.1 ≤ lm then 0 else 3 * 2 ^ C.2.1) else 0) + 2 * x_Ph (lt, sk, st, lo, lm, lw, U) ≤ 2 * x_Ph (va_up lt tg (some C), va_up (va_up sk 26 (sk tg)) tg (x_g6 C.2.1 (x_f0 sk)), st + 1, o_ln lo C.2.1, (if num = true then max lm (2 ^ C.2.1) else lm), lw, U) := by
  obtain ⟨f1, f2⟩ := x_f0r h
  obtain ⟨r1, r2⟩ := x_rA6 f1 hn
  obtain ⟨h1, h2, h3, h4, h5, h6, h7, h8, h9, h10⟩ := h
  have h3' : c_p2 lo := h3
  have h4' : lo ≤ 8192 := h4
  have h5' : c_p2 lm := h5
  have h6' : 16 ≤ lm := h6
  have h7' : lm ≤ 4096 := h7
  obtain ⟨l1, l2, l3⟩ := x_lnR hn h3' h4'
  obtain ⟨m1, m2, m3, m4⟩ := x_lmR hn h5' h6' h7'
  have e1 := x_SWu (sk := sk) (f := 26) (r := sk tg) 27 (by decide)
  have e2 := x_SWu (sk := va_up sk 26 (sk tg)) (f := tg) (r := x_g6 C.2.1 (x_f0 sk)) 27 (by omega)
  rw [va_up_ne _ _ (show tg ≠ 26 by omega)] at e2
  refine ⟨⟨fun x hx => ?_, fun x A' hx eA => ?_, l1, l2, ?_, ?_, ?_, h8, h9, h10⟩, ?_⟩
  · show (∀ k, va_up (va_up sk 26 (sk tg)) tg (x_g6 C.2.1 (x_f0 sk)) x k = 0) ∨ x_rok (va_up (va_up sk 26 (sk tg)) tg (x_g6 C.2.1 (x_f0 sk)) x)
    by_cases q : x = tg
    · rw [q, va_up_self]; exact Or.inr r1.1
    · rw [va_up_ne _ _ q]
      by_cases q2 : x = 26
      · rw [q2, va_up_self]; exact h1 tg (by omega)
      · rw [va_up_ne _ _ q2]; exact h1 x hx
  · show A'.2.1 ≤ 12 ∧ x_rkA A'.2.1 (va_up (va_up sk 26 (sk tg)) tg (x_g6 C.2.1 (x_f0 sk)) x)
    have eA' : va_up lt tg (some C) x = some A' := eA
    by_cases q : x = tg
    · rw [q, va_up_self] at eA'
      cases eA'
      rw [q, va_up_self]; exact ⟨hn, r1⟩
    · rw [va_up_ne _ _ q] at eA'
      rw [va_up_ne _ _ q, va_up_ne _ _ (by omega)]
      exact h2 x A' hx eA'
  · show c_p2 (if num = true then max lm (2 ^ C.2.1) else lm)
    split
    · exact m1
    · exact h5'
  · show 16 ≤ (if num = true then max lm (2 ^ C.2.1) else lm)
    split
    · exact m2
    · exact h6'
  · show (if num = true then max lm (2 ^ C.2.1) else lm) ≤ 4096
    split
    · exact m3
    · exact h7'
  · show _ + 2 * (x_SW sk 27 + lo + 3 * lm + 3 * lw) ≤ 2 * (x_SW (va_up (va_up sk 26 (sk tg)) tg (x_g6 C.2.1 (x_f0 sk))) 27 + o_ln lo C.2.1 + 3 * (if num = true then max lm (2 ^ C.2.1) else lm) + 3 * lw)
    clear h1 h2 h3 h4 h5 h6 h7 h8 h9 h10 h3' h5' l1 m1 f1 r1
    cases num with
    | true =>
      rw [if_pos rfl, if_pos rfl]
      omega
    | false =>
      rw [if_neg (show ¬ (false = true) by decide), if_neg (show ¬ (false = true) by decide)]
      omega
/-- a make, whole -/
theorem x_HGk {v : Nat} (h : x_HG (lt, sk, st, lo, lm, lw, U)) (ht : tg < 26) (hn : C.2.1 ≤ 12) (hA : v = 4 ∨ v = 5 → f < 26 ∧ lt f = some A) : x_HG (va_up lt tg (some C), va_up (va_up (x_k1 v f A.2.1 sk) 26 (x_k1 v f A.2.1 sk tg)) tg (x_g6 C.2.1 (x_f0 sk)), st + 1, o_ln lo C.2.1, (if v ≤ 2 then max lm (2 ^ C.2.1) else lm), lw, U) ∧
    (if sk 26 6 = 0 then 155 else 0) + x_mcs (decide (v ≤ 2)) (decide (v = 4 ∨ v = 5)) lo lm (x_f0 sk) (sk f) A.2.1 C.2.1 + 2 * x_Ph (lt, sk, st, lo, lm, lw, U) ≤ 2 * x_Ph (va_up lt tg (some C), va_up (va_up (x_k1 v f A.2.1 sk) 26 (x_k1 v f A.2.1 sk tg)) tg (x_g6 C.2.1 (x_f0 sk)), st + 1, o_ln lo C.2.1, (if v ≤ 2 then max lm (2 ^ C.2.1) else lm), lw, U) + 306 ∧
    (if sk 26 6 = 0 then 13 else 0) + x_mcc (decide (v ≤ 2)) (decide (v = 4 ∨ v = 5)) lo lm (x_f0 sk) (sk f) A.2.1 C.2.1 ≤ 30 := by
  have hk : x_HG (lt, x_k1 v f A.2.1 sk, st, lo, lm, lw, U) ∧ (if decide (v = 4 ∨ v = 5) = true ∧ sk f 7 < 2 ^ A.2.1 then 2 ^ A.2.1 else 0) + 2 * x_Ph (lt, sk, st, lo, lm, lw, U) ≤ 2 * x_Ph (lt, x_k1 v f A.2.1 sk, st, lo, lm, lw, U) ∧ x_k1 v f A.2.1 sk 26 = sk 26 := by
    unfold x_k1
    by_cases q : v = 4 ∨ v = 5
    · obtain ⟨hf, hA'⟩ := hA q
      rw [if_pos q]
      have aa : A.2.1 ≤ 12 ∧ x_rkA A.2.1 (sk f) := h.2.1 f A hf hA'
      obtain ⟨_, c2, c3⟩ := x_rk7 aa.2.1 aa.1
      obtain ⟨k1, k2, k3⟩ := x_HGu h hf hA' (x_rA7 aa.2 aa.1) c2 c3
      refine ⟨k1, ?_, va_up_ne _ _ (by omega)⟩
      have e : (if decide (v = 4 ∨ v = 5) = true ∧ sk f 7 < 2 ^ A.2.1 then 2 ^ A.2.1 else 0) = if sk f 7 < 2 ^ A.2.1 then 2 ^ A.2.1 else 0 := by
        by_cases z : sk f 7 < 2 ^ A.2.1
        · rw [if_pos z, if_pos ⟨decide_eq_true q, z⟩]
        · rw [if_neg z, if_neg (fun w => z w.2)]
      rw [e]; exact k2
    · rw [if_neg q, if_neg (fun w => q (of_decide_eq_true w.1))]
      exact ⟨h, by omega, rfl⟩
  obtain ⟨k1, k2, k3⟩ := hk
  have ef : x_f0 (x_k1 v f A.2.1 sk) = x_f0 sk := by
    unfold x_f0
    rw [k3]
  obtain ⟨m1, m2⟩ := x_HGm (num := decide (v ≤ 2)) (C := C) k1 ht hn
  rw [ef] at m1 m2
  have ed : ∀ x y : Nat, (if decide (v ≤ 2) = true then x else y) = if v ≤ 2 then x else y := fun x y => by
    by_cases q : v ≤ 2
    · rw [if_pos q, if_pos (decide_eq_true q)]
    · rw [if_neg q, if_neg (fun w => q (of_decide_eq_true w))]
  rw [ed] at m1 m2
  rw [ed] at m2
  refine ⟨m1, ?_, ?_⟩
  · have h155 : (if sk 26 6 = 0 then 155 else 0) ≤ 155 := by split <;> decide
    unfold x_mcs
    rw [ed]
    by_cases q : v ≤ 2
    · have eb : x_bs (o_ln lo C.2.1) (x_f0 sk) C.2.1 = if 2 ^ C.2.1 ≤ x_f0 sk 6 then 0 else 2 ^ C.2.1 := by
        unfold x_bs
        rw [if_pos (show 2 ^ (C.2.1 + 1) ≤ o_ln lo C.2.1 by unfold o_ln; split <;> omega), Nat.zero_add]
      rw [if_pos q] at m2 ⊢
      rw [if_pos q] at m2
      rw [if_pos q, eb]
      omega
    · rw [if_neg q] at m2 ⊢
      rw [if_neg q] at m2
      rw [if_neg q]
      unfold x_bs
      omega
  · have h13 : (if sk 26 6 = 0 then 13 else 0) ≤ 13 := by split <;> decide
    have c1 : ∀ (P : Prop) [Decidable P] (a : Nat), (if P then 0 else a) ≤ a := fun P _ a => by split <;> omega
    have c2 : ∀ (P : Prop) [Decidable P] (a : Nat), (if P then a else 0) ≤ a := fun P _ a => by split <;> omega
    unfold x_mcc x_bc
    rw [ed]
    by_cases q : v ≤ 2
    · rw [if_pos q]
      have a1 := c1 (2 ^ C.2.1 ≤ lm) 3
      have a2 := c1 (2 ^ (C.2.1 + 1) ≤ lo) 1
      have a3 := c1 (2 ^ (C.2.1 + 1) ≤ o_ln lo C.2.1) 1
      have a4 := c1 (2 ^ C.2.1 ≤ x_f0 sk 6) 1
      omega
    · rw [if_neg q]
      have a1 := c2 (decide (v = 4 ∨ v = 5) = true ∧ sk f 7 < 2 ^ A.2.1) 1
      have a2 := c1 (2 ^ (C.2.1 + 1) ≤ lo) 1
      have a4 := c1 (2 ^ C.2.1 ≤ x_f0 sk 6) 1
      omega
theorem x_HGkm {v : Nat} (h : x_HG (lt, sk, st, lo, lm, lw, U)) (ht : tg < 26) (hn : C.2.1 ≤ 12) (hA : v = 4 ∨ v = 5 → f < 26 ∧ lt f = some A) : x_Ph (lt, sk, st, lo, lm, lw, U) ≤ x_Ph (va_up lt tg (some C), va_up (va_up (x_k1 v f A.2.1 sk) 26 (x_k1 v f A.2.1 sk tg)) tg (x_g6 C.2.1 (x_f0 sk)), st + 1, o_ln lo C.2.1, (if v ≤ 2 then max lm (2 ^ C.2.1) else lm), lw, U) := by
  obtain ⟨f1, f2⟩ := x_f0r h
  have r2 := (x_rA6 f1 hn).2
  have hk : x_SW sk 27 ≤ x_SW (x_k1 v f A.2.1 sk) 27 ∧ x_k1 v f A.2.1 sk 26 = sk 26 := by
    unfold x_k1
    by_cases q : v = 4 ∨ v = 5
    · obtain ⟨hf, hA'⟩ := hA q
      rw [if_pos q]
      have aa : A.2.1 ≤ 12 ∧ x_rkA A.2.1 (sk f) := h.2.1 f A hf hA'
      have c2 := (x_rk7 aa.2.1 aa.1).2.2
      have e := x_SWu (sk := sk) (f := f) (r := x_g7 A.2.1 (sk f)) 27 (by omega)
      exact ⟨by omega, va_up_ne _ _ (by omega)⟩
    · rw [if_neg q]; exact ⟨Nat.le_refl _, rfl⟩
  have e1 := x_SWu (sk := x_k1 v f A.2.1 sk) (f := 26) (r := x_k1 v f A.2.1 sk tg) 27 (by decide)
  have e2 := x_SWu (sk := va_up (x_k1 v f A.2.1 sk) 26 (x_k1 v f A.2.1 sk tg)) (f := tg) (r := x_g6 C.2.1 (x_f0 sk)) 27 (by omega)
  rw [va_up_ne _ _ (show tg ≠ 26 by omega)] at e2
  rw [hk.2] at e1
  have el : lo ≤ o_ln lo C.2.1 := by unfold o_ln; split <;> omega
  have em : lm ≤ (if v ≤ 2 then max lm (2 ^ C.2.1) else lm) := by split <;> omega
  have hk1 := hk.1
  show x_SW sk 27 + lo + 3 * lm + 3 * lw ≤ x_SW (va_up (va_up (x_k1 v f A.2.1 sk) 26 (x_k1 v f A.2.1 sk tg)) tg (x_g6 C.2.1 (x_f0 sk))) 27 + o_ln lo C.2.1 + 3 * (if v ≤ 2 then max lm (2 ^ C.2.1) else lm) + 3 * lw
  clear h f1 hA
  omega
end XHM
