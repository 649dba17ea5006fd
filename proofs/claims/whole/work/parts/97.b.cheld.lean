/-! PURE, the class: Matroid: heldOf, chosenColumns -/
def x_ho (h0 : Nat) (pt : Nat → Option Nat) (cc : Nat → Nat) (P : Nat → Bool) (a1 : Nat) : Nat → Nat
  | 0 => h0
  | k + 1 => if pt k = some a1 ∧ P k = true then x_ho h0 pt cc P a1 k ||| 2 ^ cc k else x_ho h0 pt cc P a1 k
section CHE
variable {a cm np ns a1 : Nat} {pa sa : Nat → Nat} {pp : Nat → px_PR} {ss : Nat → px_SR} {q_o l_o : Nat} {o_r : Int32} {g_o g_t : Nat → Int32} {mm : Nat → px_MR} {n S U : Nat} {cc : Nat → Nat} {t : Bool} {post : Int32 → Nat → Nat → Int32 → (Nat → Int32) → (Nat → Int32) → (Nat → px_MR) → Prop}
theorem b_t01 (u t : Bool) : ((if u = true then (1 : Int32) else 0) = (if t = true then 1 else 0)) ↔ (u ^^ t) = false := by cases u <;> cases t <;> decide
theorem c_held (ha : a < cm) (hn : n ≤ 12) (hsz : (mm a).2.1 13 = nI n) (hpok : px_pok cm np mm) (hc : ∀ e, e < n → (mm a).2.2.2.1 2 e = nI (cc e) ∧ cc e < 12) (ht : (pp a1).2.2 = if t = true then 1 else 0) (ha1 : a1 < np) (hS : S < 2 ^ 31) (hU : U < 2 ^ 31)
    (h : post (nI (x_ho 0 (mm a).2.2.2.2.2 cc (fun e => S.testBit e && (U.testBit e ^^ t)) a1 n)) q_o l_o o_r g_o g_t mm) : w260_wp a cm np ns pa sa pp ss a1 post (nI S) (nI U) q_o l_o o_r g_o g_t mm := by
  unfold w260_wp
  have main : ∀ (u k : Nat), k + u = n → w260_L6 a cm np ns pa sa pp ss a1 post (u + 1) (nI S) (nI U) (nI (x_ho 0 (mm a).2.2.2.2.2 cc (fun e => S.testBit e && (U.testBit e ^^ t)) a1 k)) (nI k) q_o l_o o_r g_o g_t mm := by
    intro u
    induction u with
    | zero =>
      intro k hk
      refine ⟨ha, fun _ => ?_, fun w => ?_⟩
      · rw [show k = n by omega]; exact h
      · rw [hsz] at w; exact absurd (nI_le (by omega) (by omega)) w
    | succ u ih =>
      intro k hk
      have ih := ih (k + 1) (by omega)
      generalize hX : x_ho 0 (mm a).2.2.2.2.2 cc (fun e => S.testBit e && (U.testBit e ^^ t)) a1 k = X at *
      have ex : x_ho 0 (mm a).2.2.2.2.2 cc (fun e => S.testBit e && (U.testBit e ^^ t)) a1 (k + 1) = if (mm a).2.2.2.2.2 k = some a1 ∧ (S.testBit k && (U.testBit k ^^ t)) = true then X ||| 2 ^ cc k else X := by rw [← hX]; rfl
      rw [ex] at ih
      have skip : ∀ x6 : Int32, ¬ ((mm a).2.2.2.2.2 k = some a1 ∧ (S.testBit k && (U.testBit k ^^ t)) = true) → w260_L74 (w260_L6 a cm np ns pa sa pp ss a1 post (u + 1)) a cm np ns pa sa pp ss a1 post (nI S) (nI U) (nI X) (nI k) x6 q_o l_o o_r g_o g_t mm := by
        intro x6 hno z1 e1
        rw [if_neg hno] at ih
        rw [e1, nI_1]; exact ih
      have h29 : w260_L29 (w260_L6 a cm np ns pa sa pp ss a1 post (u + 1)) a cm np ns pa sa pp ss a1 post (nI S) (nI U) (nI X) (nI k) (if U.testBit k = true then 1 else 0) q_o l_o o_r g_o g_t mm := by
        unfold w260_L29
        rw [nI_clamp (show k < 2 ^ 31 by omega)]
        refine ⟨ha, ha, b_in (by omega) (by omega), fun w => skip _ (fun k => by rw [w] at k; exact absurd k.1 (by simp)), fun k38 e38 => ⟨hpok a ha k k38 e38, ha1, fun w => ⟨fun w2 => skip _ (fun kk => ?_), fun w2 => ⟨ha1, fun w3 => skip _ (fun kk => ?_), fun w3 => ⟨ha, ha, b_in (by omega) (by omega), fun z3 e3 => ?_⟩⟩⟩, fun w => skip _ (fun kk => ?_)⟩⟩
        · rw [b_bit0 hS (by omega)] at w2
          rw [w2] at kk; exact absurd kk.2 (by simp)
        · rw [ht, b_t01] at w3
          rw [w3, Bool.and_false] at kk; exact absurd kk.2 (by decide)
        · have s1 : S.testBit k = true := by
            cases hh : S.testBit k with
            | true => rfl
            | false => exact absurd ((b_bit0 hS (by omega)).2 hh) w2
          have s2 : (U.testBit k ^^ t) = true := by
            cases hh : (U.testBit k ^^ t) with
            | true => rfl
            | false => exact absurd (by rw [ht]; exact (b_t01 _ _).2 hh) w3
          rw [if_pos ⟨by rw [e38, w], by rw [s1, s2]; rfl⟩] at ih
          obtain ⟨c1, c2⟩ := hc k (by omega)
          rw [c1, b_sh (by omega), b_or] at e3
          intro z1 e1
          rw [e1, nI_1, e3]; exact ih
        · rw [e38] at kk
          exact w (by simpa using kk.1)
      refine ⟨ha, fun w => ?_, fun _ => ⟨fun w => ?_, fun w => ?_⟩⟩
      · rw [hsz] at w; exact absurd w (nI_ge (by omega) (by omega))
      · rw [b_bit0 hU (by omega)] at w
        rw [w] at h29; exact h29
      · have s1 : U.testBit k = true := by
          cases hh : U.testBit k with
          | true => rfl
          | false => exact absurd ((b_bit0 hU (by omega)).2 hh) w
        rw [s1] at h29; exact h29
  exact ⟨_, main n 0 (by omega)⟩
theorem c_chosen {h0 : Nat} (ha : a < cm) (hn : n ≤ 12) (hsz : (mm a).2.1 13 = nI n) (hpok : px_pok cm np mm) (hc : ∀ e, e < n → (mm a).2.2.2.1 2 e = nI (cc e) ∧ cc e < 12) (ht : (pp a1).2.2 = if t = true then 1 else 0) (hh : (pp a1).2.1 = nI h0) (ha1 : a1 < np) (hU : U < 2 ^ 31)
    (h : post (nI (x_ho h0 (mm a).2.2.2.2.2 cc (fun e => U.testBit e ^^ t) a1 n)) q_o l_o o_r g_o g_t mm) : w313_wp a cm np ns pa sa pp ss a1 post (nI U) q_o l_o o_r g_o g_t mm := by
  unfold w313_wp
  have main : ∀ (u k : Nat), k + u = n → w313_L8 a cm np ns pa sa pp ss a1 post (u + 1) (nI U) (nI (x_ho h0 (mm a).2.2.2.2.2 cc (fun e => U.testBit e ^^ t) a1 k)) (nI k) q_o l_o o_r g_o g_t mm := by
    intro u
    induction u with
    | zero =>
      intro k hk
      refine ⟨ha, fun _ => ?_, fun w => ?_⟩
      · rw [show k = n by omega]; exact h
      · rw [hsz] at w; exact absurd (nI_le (by omega) (by omega)) w
    | succ u ih =>
      intro k hk
      have ih := ih (k + 1) (by omega)
      generalize hX : x_ho h0 (mm a).2.2.2.2.2 cc (fun e => U.testBit e ^^ t) a1 k = X at *
      have ex : x_ho h0 (mm a).2.2.2.2.2 cc (fun e => U.testBit e ^^ t) a1 (k + 1) = if (mm a).2.2.2.2.2 k = some a1 ∧ (U.testBit k ^^ t) = true then X ||| 2 ^ cc k else X := by rw [← hX]; rfl
      rw [ex] at ih
      have skip : ∀ x6 : Int32, ¬ ((mm a).2.2.2.2.2 k = some a1 ∧ (U.testBit k ^^ t) = true) → w313_L65 (w313_L8 a cm np ns pa sa pp ss a1 post (u + 1)) a cm np ns pa sa pp ss a1 post (nI U) (nI X) (nI k) x6 q_o l_o o_r g_o g_t mm := by
        intro x6 hno z1 e1
        rw [if_neg hno] at ih
        rw [e1, nI_1]; exact ih
      have h29 : w313_L31 (w313_L8 a cm np ns pa sa pp ss a1 post (u + 1)) a cm np ns pa sa pp ss a1 post (nI U) (nI X) (nI k) (if U.testBit k = true then 1 else 0) q_o l_o o_r g_o g_t mm := by
        unfold w313_L31
        rw [nI_clamp (show k < 2 ^ 31 by omega)]
        refine ⟨ha, ha, b_in (by omega) (by omega), fun w => skip _ (fun k => by rw [w] at k; exact absurd k.1 (by simp)), fun k38 e38 => ⟨hpok a ha k k38 e38, ha1, fun w => ⟨ha1, fun w3 => skip _ (fun kk => ?_), fun w3 => ⟨ha, ha, b_in (by omega) (by omega), fun z3 e3 => ?_⟩⟩, fun w => skip _ (fun kk => ?_)⟩⟩
        · rw [ht, b_t01] at w3
          rw [w3] at kk; exact absurd kk.2 (by decide)
        · have s2 : (U.testBit k ^^ t) = true := by
            cases hh : (U.testBit k ^^ t) with
            | true => rfl
            | false => exact absurd (by rw [ht]; exact (b_t01 _ _).2 hh) w3
          rw [if_pos ⟨by rw [e38, w], s2⟩] at ih
          obtain ⟨c1, c2⟩ := hc k (by omega)
          rw [c1, b_sh (by omega), b_or] at e3
          intro z1 e1
          rw [e1, nI_1, e3]; exact ih
        · rw [e38] at kk
          exact w (by simpa using kk.1)
      refine ⟨ha, fun w => ?_, fun _ => ⟨fun w => ?_, fun w => ?_⟩⟩
      · rw [hsz] at w; exact absurd w (nI_ge (by omega) (by omega))
      · rw [b_bit0 hU (by omega)] at w
        rw [w] at h29; exact h29
      · have s1 : U.testBit k = true := by
          cases hh : U.testBit k with
          | true => rfl
          | false => exact absurd ((b_bit0 hU (by omega)).2 hh) w
        rw [s1] at h29; exact h29
  refine ⟨ha1, fun z4 e4 => ⟨n + 1, ?_⟩⟩
  rw [e4, hh]
  exact main n 0 (by omega)
end CHE
