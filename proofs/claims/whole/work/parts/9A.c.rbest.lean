/-! PURE, the reference: bestOf -/
theorem x_swle {w : Nat → Int} {W : Int} (hw : ∀ e, e < 12 → -W ≤ w e ∧ w e ≤ W) (hW : 0 ≤ W) (S : Nat) : ∀ k, k ≤ 12 → - (W * k) ≤ x_sm k (fun e => if S.testBit e = true then w e else 0) ∧ x_sm k (fun e => if S.testBit e = true then w e else 0) ≤ W * k
  | 0, _ => by
    show - (W * 0) ≤ (0 : Int) ∧ (0 : Int) ≤ W * 0
    omega
  | k + 1, hk => by
    have ih := x_swle hw hW S k (by omega)
    have h1 := hw k (by omega)
    show - (W * (k + 1 : Nat)) ≤ x_sm k _ + (if S.testBit k = true then w k else 0) ∧ x_sm k _ + (if S.testBit k = true then w k else 0) ≤ W * (k + 1 : Nat)
    have e : W * ((k + 1 : Nat) : Int) = W * k + W := by
      rw [show ((k + 1 : Nat) : Int) = (k : Int) + 1 from rfl, Int.mul_add, Int.mul_one]
    rw [e]
    split <;> omega
theorem x_smext {f : Nat → Int} {n : Nat} : ∀ u, (∀ i, n ≤ i → i < n + u → f i = 0) → x_sm (n + u) f = x_sm n f
  | 0, _ => rfl
  | u + 1, h => by
    show x_sm (n + u) f + f (n + u) = _
    rw [x_smext u (fun i h1 h2 => h i h1 (by omega)), h (n + u) (by omega) (by omega), Int.add_zero]
section RBE
variable {ge gr gR go gs gw iv : Nat → Int32} {m n r : Nat} {b : Nat → Bool}
theorem i32_add {x y : Int32} {a c : Int} (hx : x.toInt = a) (hy : y.toInt = c) (h1 : -100000 ≤ a + c) (h2 : a + c ≤ 100000) : (x + y).toInt = a + c := by
  rw [Int32.toInt_add, hx, hy]
  exact Int.bmod_eq_of_le (by omega) (by omega)
theorem r_bestOf {post : Int32 → (Nat → Int32) → (Nat → Int32) → (Nat → Int32) → (Nat → Int32) → (Nat → Int32) → (Nat → Int32) → (Nat → Int32) → Prop} {w : Nat → Int} (hD : r_D ge gr gR m n r b) (hT : r_T go gs) (hw : ∀ e, e < n → (gw (12 * m + e)).toInt = w e) (hwl : ∀ e, e < 12 → -999 ≤ w e ∧ w e ≤ 999) (h : ∀ G, x_best b w G → post (nI G) iv ge gr gw gR go gs) : w80_wp post (nI m) iv ge gr gw gR go gs := by
  have hn := (r_Dn hD).1
  have hp := b_p12 hn
  have hp0 := Nat.two_pow_pos n
  have hm := hD.1
  have hb := hD.2.2.2.1
  have hsw : ∀ S, S < 2 ^ n → x_sw w S = x_sm n (fun e => if S.testBit e = true then w e else 0) := by
    intro S hS
    unfold x_sw
    have := x_smext (f := fun e => if S.testBit e = true then w e else 0) (n := n) (12 - n) (fun i h1 h2 => by
      show (if S.testBit i = true then w i else 0) = 0
      rw [Nat.testBit_lt_two_pow (Nat.lt_of_lt_of_le hS (Nat.pow_le_pow_right (by decide) h1))]; rfl)
    rw [show n + (12 - n) = 12 by omega] at this
    exact this
  have hswl : ∀ S, -12000 ≤ x_sw w S ∧ x_sw w S ≤ 12000 := by
    intro S
    have := x_swle hwl (by decide) S 12 (Nat.le_refl _)
    unfold x_sw
    omega
  -- what has been found among the first k
  have main : ∀ (u k : Nat) (x2 x3 : Int32), k + u = 4096 → ((x2 = -1 ∧ x3 = 0 ∧ ∀ j, j < k → ¬ (x_or 12 j < 2 ^ n ∧ b (x_or 12 j) = true)) ∨ (∃ j, j < k ∧ x_or 12 j < 2 ^ n ∧ b (x_or 12 j) = true ∧ x2 = nI (x_or 12 j) ∧ x3.toInt = x_sw w (x_or 12 j) ∧ ∀ i, i < k → x_or 12 i < 2 ^ n → b (x_or 12 i) = true → i ≠ j → x_sw w (x_or 12 i) < x_sw w (x_or 12 j) ∨ (x_sw w (x_or 12 i) = x_sw w (x_or 12 j) ∧ x_key (x_or 12 j) < x_key (x_or 12 i)))) → w80_L7 post (u + 1) (nI m) x2 x3 (nI k) iv ge gr gw gR go gs := by
    intro u
    induction u with
    | zero =>
      intro k x2 x3 hk hst
      refine ⟨fun _ => ?_, fun w => absurd (nI_le (a := 4096) (b := k) (by omega) (by omega)) w⟩
      rcases hst with ⟨_, _, hno⟩ | ⟨j, j1, j2, j3, j4, j5, j6⟩
      · exfalso
        obtain ⟨B, hB⟩ := hb.2.1
        have hBl := (hb.2.2.1 B hB).1
        obtain ⟨i, hi, ei⟩ := x_orx (n := 12) (Nat.le_refl _) (show B < 2 ^ 12 by omega)
        exact hno i (by omega) ⟨by rw [ei]; exact hBl, by rw [ei]; exact hB⟩
      · rw [j4]
        refine h _ ⟨j3, fun B hB hne => ?_⟩
        have hBl := (hb.2.2.1 B hB).1
        obtain ⟨i, hi, ei⟩ := x_orx (n := 12) (Nat.le_refl _) (show B < 2 ^ 12 by omega)
        have := j6 i (by omega) (by rw [ei]; exact hBl) (by rw [ei]; exact hB) (fun q => hne (by rw [← ei, q]))
        rw [ei] at this
        exact this
    | succ u ih =>
      intro k x2 x3 hk hst
      have horl := (x_orl (m := 12) (Nat.le_refl _) (show k < 2 ^ 12 by omega)).1
      have hkey : ∀ j, j < k → x_key (x_or 12 j) < x_key (x_or 12 k) := fun j hj => x_orp (Nat.le_refl _) hj (by omega)
      have next : ¬ (x_or 12 k < 2 ^ n ∧ b (x_or 12 k) = true) → w80_L112 (w80_L7 post (u + 1)) post (nI m) x2 x3 (nI k) (nI (x_or 12 k)) iv ge gr gw gR go gs := by
        intro hno z ez
        rw [ez, nI_1]
        refine ih (k + 1) x2 x3 (by omega) ?_
        rcases hst with ⟨a1, a2, a3⟩ | ⟨j, j1, j2, j3, j4, j5, j6⟩
        · left
          refine ⟨a1, a2, fun j hj => ?_⟩
          by_cases q : j = k
          · rw [q]; exact hno
          · exact a3 j (by omega)
        · right
          refine ⟨j, by omega, j2, j3, j4, j5, fun i hi h1 h2 h3 => ?_⟩
          by_cases q : i = k
          · rw [q] at h1 h2; exact absurd ⟨h1, h2⟩ hno
          · exact j6 i (by omega) h1 h2 h3
      refine ⟨fun w => absurd w (nI_ge (a := k) (b := 4096) (by omega) (by omega)), fun _ => ⟨b_in (by omega) (by omega), fun z4 e4 => ?_⟩⟩
      rw [nI_clamp (by omega), hT.1 k (by omega)] at e4
      rw [e4]
      refine r_whole hD ⟨fun w0 => next (fun hh => ?_), fun w0 => ?_⟩
      · have := (nI_ltI (by omega) (by omega)).1 w0
        omega
      · have hlt : x_or 12 k < 2 ^ n := by
          by_cases q : x_or 12 k < 2 ^ n
          · exact q
          · exact absurd (nI_lt (by omega) (by omega)) w0
        refine r_isOf (kind := 0) hD hT (by decide) hlt ⟨fun w2 => ⟨n + 1, ?_⟩, fun w2 => next (fun hh => ?_)⟩
        · have hbk : b (x_or 12 k) = true := by
            cases hh : x_of b n r 0 (x_or 12 k)
            · rw [hh] at w2; exact absurd rfl w2
            · exact hh
          -- the sum
          have sum : ∀ (v e : Nat) (x6 : Int32), e + v = n → x6.toInt = x_sm e (fun e => if (x_or 12 k).testBit e = true then w e else 0) → w80_L54 (w80_L7 post (u + 1)) post (v + 1) (nI m) x2 x3 (nI k) (nI (x_or 12 k)) x6 (nI e) iv ge gr gw gR go gs := by
            intro v
            induction v with
            | zero =>
              intro e x6 he hx6
              rw [show e = n by omega, ← hsw _ hlt] at hx6
              have take : (∀ j, j < k → x_or 12 j < 2 ^ n → b (x_or 12 j) = true → x_sw w (x_or 12 j) < x_sw w (x_or 12 k)) → w80_L106 (w80_L7 post (u + 1)) post (nI m) x2 x3 (nI k) (nI (x_or 12 k)) x6 (nI e) iv ge gr gw gR go gs := by
                intro hall z ez
                rw [ez, nI_1]
                refine ih (k + 1) _ x6 (by omega) (Or.inr ⟨k, by omega, hlt, hbk, rfl, hx6, fun i hi h1 h2 h3 => ?_⟩)
                exact Or.inl (hall i (by omega) h1 h2)
              refine ⟨b_in (by omega) (by omega), fun _ => ⟨fun w3 => take ?_, fun w3 => ⟨fun w4 => ?_, fun w4 => take ?_⟩⟩, fun w3 => ?_⟩
              · rcases hst with ⟨a1, a2, a3⟩ | ⟨j, j1, j2, j3, j4, j5, j6⟩
                · intro j hj h1 h2; exact absurd ⟨h1, h2⟩ (a3 j hj)
                · rw [j4] at w3; exact absurd w3 (nI_pos (by omega))
              · rcases hst with ⟨a1, a2, a3⟩ | ⟨j, j1, j2, j3, j4, j5, j6⟩
                · rw [a1] at w3; exact absurd (by decide) w3
                · intro z ez
                  rw [ez, nI_1]
                  refine ih (k + 1) x2 x3 (by omega) (Or.inr ⟨j, by omega, j2, j3, j4, j5, fun i hi h1 h2 h3 => ?_⟩)
                  by_cases q : i = k
                  · rw [q]
                    have := Int32.le_iff_toInt_le.1 w4
                    rw [hx6, j5] at this
                    by_cases q2 : x_sw w (x_or 12 k) < x_sw w (x_or 12 j)
                    · exact Or.inl q2
                    · exact Or.inr ⟨by omega, hkey j j1⟩
                  · exact j6 i (by omega) h1 h2 h3
              · rcases hst with ⟨a1, a2, a3⟩ | ⟨j, j1, j2, j3, j4, j5, j6⟩
                · intro j hj h1 h2; exact absurd ⟨h1, h2⟩ (a3 j hj)
                · have hgt : x_sw w (x_or 12 j) < x_sw w (x_or 12 k) := by
                    have : ¬ x6.toInt ≤ x3.toInt := fun q => w4 (Int32.le_iff_toInt_le.2 q)
                    rw [hx6, j5] at this
                    omega
                  intro i hi h1 h2
                  by_cases q : i = j
                  · rw [q]; exact hgt
                  · rcases j6 i hi h1 h2 q with q2 | q2 <;> omega
              · rw [nI_clamp (by omega), hD.2.1] at w3
                exact absurd (nI_le (by omega) (by omega)) w3
            | succ v ihv =>
              intro e x6 he hx6
              refine ⟨b_in (by omega) (by omega), fun w3 => ?_, fun _ => ?_⟩
              · rw [nI_clamp (by omega), hD.2.1] at w3
                exact absurd w3 (nI_ge (by omega) (by omega))
              · have e12 : (12 : Int32) * nI m + nI e = nI (12 * m + e) := by
                  rw [show (12 : Int32) = nI 12 from rfl, pk_mul, nI_add]
                rw [e12, nI_clamp (by omega), b_bit (by omega) (by omega)]
                refine ⟨b_in (by omega) (by omega), fun z2 ez2 z3 ez3 => ?_⟩
                rw [ez3, nI_1]
                refine ihv (e + 1) z2 (by omega) ?_
                have hb1 := x_swle hwl (by decide) (x_or 12 k) e (by omega)
                have hb2 := hwl e (by omega)
                rw [← hx6] at hb1
                show z2.toInt = x_sm e _ + (if (x_or 12 k).testBit e = true then w e else 0)
                rw [ez2, ← hx6]
                have hprod : ((if (x_or 12 k).testBit e = true then (1 : Int32) else 0) * gw (12 * m + e)).toInt = (if (x_or 12 k).testBit e = true then w e else 0) := by
                  by_cases q : (x_or 12 k).testBit e = true
                  · rw [if_pos q, if_pos q, Int32.one_mul, hw e (by omega)]
                  · rw [if_neg q, if_neg q, Int32.zero_mul]; rfl
                refine i32_add rfl hprod ?_ ?_
                · split <;> omega
                · split <;> omega
          exact sum n 0 0 (by omega) rfl
        · have : x_of b n r 0 (x_or 12 k) = true := hh.2
          rw [this] at w2
          exact t_10 w2
  exact ⟨4097, main 4096 0 (-1) 0 rfl (Or.inl ⟨rfl, rfl, fun j hj => absurd hj (Nat.not_lt_zero j)⟩)⟩
end RBE
