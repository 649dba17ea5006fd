/-! PURE, the class: Product: setLine, power, term -/
def x_nD : Nat → Nat → Nat
  | 0, _ => 1
  | t + 1, n => if n < 10 then 1 else 1 + x_nD t (n / 10)
theorem x_nDD : ∀ (t n : Nat), n < 10 ^ (t + 1) → 1 ≤ x_nD t n ∧ x_nD t n ≤ t + 1 ∧ n < 10 ^ (x_nD t n) ∧ (x_nD t n = 1 ∨ 10 ^ (x_nD t n - 1) ≤ n)
  | 0, n, h => ⟨Nat.le_refl 1, Nat.le_refl 1, h, Or.inl rfl⟩
  | t + 1, n, h => by
    unfold x_nD
    by_cases z : n < 10
    · rw [if_pos z]; exact ⟨Nat.le_refl 1, by omega, z, Or.inl rfl⟩
    · rw [if_neg z]
      obtain ⟨a, b, c, d⟩ := x_nDD t (n / 10) (by rw [Nat.pow_succ] at h; exact Nat.div_lt_of_lt_mul (by omega))
      refine ⟨by omega, by omega, ?_, Or.inr ?_⟩
      · rw [show 1 + x_nD t (n / 10) = x_nD t (n / 10) + 1 by omega, Nat.pow_succ]; omega
      · rw [show 1 + x_nD t (n / 10) - 1 = x_nD t (n / 10) by omega]
        cases d with
        | inl e => rw [e]; omega
        | inr e =>
          rw [show x_nD t (n / 10) = x_nD t (n / 10) - 1 + 1 by omega, Nat.pow_succ]; omega
/-- a number in tens -/
def x_dg (n : Nat) : List Nat := x_dec n (x_nD 47 n)
theorem x_dgD {n : Nat} (h : n < 10 ^ 48) : x_D n (x_nD 47 n) := by
  obtain ⟨a, b, c, d⟩ := x_nDD 47 n h
  exact ⟨a, by omega, c, d⟩
theorem nL_of {n : Nat} (h : n < 2 ^ 31) : (nI n).toInt64 = nL n := by
  apply Int64.toInt_inj.1
  rw [Int32.toInt_toInt64, nI_toInt h, nL_toInt (by omega)]
section CPT
variable {q_b l_b M T : Nat} {pl pf : Int32} {g_b g_d : Nat → Int32} {U : List Nat}
theorem c_sub2 {mc ms kc ks : Nat} {W : List Nat} {R : (Nat → Int32) → (Nat → Int32) → Prop} {P : Nat → Nat → pr_P → pr_P} {V : List Nat} {post : Nat → Nat → pr_P} (hP : pr_S R V P) (hI : pr_I M T l_b pl pf g_b U) (hb : pr_b kc ks l_b T mc ms) (hM : min 65536 (U.length + (V ++ W).length) ≤ M)
    (h : ∀ m s q' l' pl' pf' g' gd', pr_I M T l' pl' pf' g' (U ++ V) → min 65536 ((U ++ V).length + W.length) ≤ M → pr_b (kc + m) (ks + s) l' T mc ms → post m s q' l' pl' pf' g' gd') : ∃ m s, kc + m ≤ mc ∧ ks + s ≤ ms ∧ P m s (post m s) q_b l_b pl pf g_b g_d := by
  rw [List.length_append] at hM
  exact c_sub hP hI hb (by omega) (fun m s q' l' pl' pf' g' gd' a _ c => h m s q' l' pl' pf' g' gd' a (by rw [List.length_append]; omega) c)
theorem c_num {n : Nat} (hn : n < 2 ^ 63) : pr_S (fun _ _ => True) (x_dg n) (fun mc ms post => w269_wp mc ms post (nL n)) := c_number hn (x_dgD (Nat.lt_of_lt_of_le hn (by decide)))
theorem c_num32 {n : Nat} (hn : n < 2 ^ 31) : pr_S (fun _ _ => True) (x_dg n) (fun mc ms post => w269_wp mc ms post (nI n).toInt64) := by
  rw [nL_of hn]; exact c_num (by omega)
def x_setl (S : Nat) : Nat → Nat → Bool → List Nat
  | 0, _, _ => x_str 3
  | t + 1, i, f => if S.testBit i = true then x_str (if f = true then 1 else 2) ++ (x_dg i ++ x_setl S t (i + 1) false) else x_setl S t (i + 1) f
def x_set (S : Nat) : List Nat := [123] ++ x_setl S 12 0 true
theorem c_set10 {mc ms S : Nat} {post : pr_P} (hS : S < 2 ^ 31) : ∀ (t i : Nat) (f : Bool), i + t = 12 → ∀ (q l : Nat) (pl pf : Int32) (g gd : Nat → Int32) (kc ks : Nat) (U : List Nat), pr_I M T l pl pf g U → pr_b kc ks l T mc ms → min 65536 (U.length + (x_setl S t i f).length) ≤ M → (∀ q' l' pl' pf' g' gd', pr_I M T l' pl' pf' g' (U ++ x_setl S t i f) → post q' l' pl' pf' g' gd') → w277_L10 mc ms post (t + 1) (nI S) (if f = true then 1 else 0) (nI i) q l pl pf g gd kc ks := by
  intro t
  induction t with
  | zero =>
    intro i f hi q l pl pf g gd kc ks U hI hb hM h
    refine ⟨fun _ => ?_, fun z => absurd (nI_le (a := 12) (by omega) (by omega)) z⟩
    exact c_sub (V := x_str 3) (P := fun mc ms post => w278_wp mc ms 3 post) (post := fun _ _ => post) (c_text (k := 3) (by decide)) hI hb hM (fun _ _ _ _ _ _ _ _ a _ _ => h _ _ _ _ _ _ a)
  | succ t ih =>
    intro i f hi q l pl pf g gd kc ks U hI hb hM h
    refine ⟨fun z => absurd z (nI_ge (b := 12) (by omega) (by decide)), fun _ => ⟨fun z => ?_, fun z => ?_⟩⟩
    · rw [b_bit0 hS (by omega)] at z
      have e : x_setl S (t + 1) i f = x_setl S t (i + 1) f := by
        show (if S.testBit i = true then _ else _) = _
        rw [z]; exact if_neg (by decide)
      rw [e] at hM h
      intro z1 e1
      rw [e1, nI_1]
      exact ih (i + 1) f (by omega) _ _ _ _ _ _ _ _ U hI hb hM h
    · have z' : S.testBit i = true := by
        cases hh : S.testBit i with
        | true => rfl
        | false => exact absurd ((b_bit0 hS (by omega)).2 hh) z
      have e : x_setl S (t + 1) i f = x_str (if f = true then 1 else 2) ++ (x_dg i ++ x_setl S t (i + 1) false) := by
        show (if S.testBit i = true then _ else _) = _
        rw [if_pos z']
      rw [e] at hM h
      have h36 : w277_L36 (w277_L10 mc ms post (t + 1)) mc ms post (nI S) (if f = true then 1 else 0) (nI i) (if f = true then 1 else 2) q l pl pf g gd kc ks := by
        unfold w277_L36
        refine c_sub2 (V := x_str (if f = true then 1 else 2)) (P := fun mc ms post => w278_wp mc ms (if f = true then 1 else 2) post) (post := fun m36_8 s36_8 v2 v3 v4 v5 v6 v7 => ∃ m42_16 s42_16 : Nat, kc + m36_8 + m42_16 ≤ mc ∧ ks + s36_8 + s42_16 ≤ ms ∧ (w269_wp m42_16 s42_16 (fun v10 v11 v12 v13 v14 v15 => w277_L47 (w277_L10 mc ms post (t + 1)) mc ms post (nI S) 0 (nI i) v10 v11 v12 v13 v14 v15 (kc + m36_8 + m42_16) (ks + s36_8 + s42_16)) (nI i).toInt64 v2 v3 v4 v5 v6 v7)) (c_text (by split <;> decide)) hI hb hM (fun m s q' l' pl' pf' g' gd' hI hM hb => ?_)
        refine c_sub2 (V := x_dg i) (P := fun mc ms post => w269_wp mc ms post (nI i).toInt64) (post := fun m s v10 v11 v12 v13 v14 v15 => w277_L47 (w277_L10 mc ms post (t + 1)) mc ms post (nI S) 0 (nI i) v10 v11 v12 v13 v14 v15 (_ + m) (_ + s)) (c_num32 (by omega)) hI hb hM (fun m2 s2 q' l' pl' pf' g' gd' hI hM hb => ?_)
        intro z1 e1
        rw [e1, nI_1]
        refine ih (i + 1) false (by omega) _ _ _ _ _ _ _ _ _ hI hb hM (fun q' l' pl' pf' g' gd' a => h _ _ _ _ _ _ ?_)
        rw [List.append_assoc, List.append_assoc] at a
        exact a
      cases f with
      | true => exact ⟨fun z => absurd z (by decide), fun _ => h36⟩
      | false => exact ⟨fun _ => h36, fun z => absurd rfl z⟩
theorem c_setLine {S : Nat} (hS : S < 2 ^ 31) : pr_S (fun _ _ => True) (x_set S) (fun mc ms post => w277_wp mc ms post (nI S)) := by
  intro mc ms post q_b l_b pl pf g_b g_d M T U hI hb hM h
  show w277_wp mc ms post (nI S) q_b l_b pl pf g_b g_d
  unfold w277_wp
  refine c_sub2 (V := [123]) (W := x_setl S 12 0 true) (P := fun mc ms post => w270_wp mc ms post 123) (post := fun m s v26 v27 v28 v29 v30 v31 => ∃ j10, w277_L10 mc ms post j10 (nI S) 1 0 v26 v27 v28 v29 v30 v31 (0 + m) (0 + s)) (c_pput (c := 123) (by decide)) hI hb hM (fun m s q' l' pl' pf' g' gd' hI hM hb => ?_)
  refine ⟨13, c_set10 (M := M) (T := T) hS 12 0 true rfl _ _ _ _ _ _ _ _ _ hI hb hM (fun q' l' pl' pf' g' gd' a => h _ _ _ _ _ _ ?_ trivial)⟩
  rw [List.append_assoc] at a
  exact a
def x_pow (c e : Nat) : List Nat := if e = 0 then [] else [c] ++ (if e = 1 then [] else [94] ++ x_dg e)
theorem c_power {c e : Nat} (hc : c < 128) (he : e < 2 ^ 31) : pr_S (fun _ _ => True) (x_pow c e) (fun mc ms post => w285_wp mc ms post (nI c) (nI e)) := by
  intro mc ms post q_b l_b pl pf g_b g_d M T U hI hb hM h
  show w285_wp mc ms post (nI c) (nI e) q_b l_b pl pf g_b g_d
  unfold w285_wp
  by_cases z0 : e = 0
  · rw [show x_pow c e = [] from if_pos z0, List.append_nil] at h
    refine ⟨fun _ => ⟨fun _ => h _ _ _ _ _ _ hI trivial, fun z => absurd (by rw [z0]; decide) z⟩, fun z => absurd (by rw [z0]; decide) z⟩
  · rw [show x_pow c e = [c] ++ (if e = 1 then [] else [94] ++ x_dg e) from if_neg z0] at hM h
    refine ⟨fun z => absurd z (nI_nle (by omega) he), fun _ => ?_⟩
    refine c_sub2 (V := [c]) (P := fun mc ms post => w270_wp mc ms post (nI c)) (post := fun m s v17 v18 v19 v20 v21 v22 => w285_L9 mc ms post (nI c) (nI e) v17 v18 v19 v20 v21 v22 (0 + m) (0 + s)) (c_pput hc) hI hb hM (fun m s q' l' pl' pf' g' gd' hI hM hb => ?_)
    by_cases z1 : e = 1
    · rw [if_pos z1, List.append_nil] at h
      exact ⟨fun _ => h _ _ _ _ _ _ hI trivial, fun z => absurd (by rw [z1]; decide) z⟩
    · rw [if_neg z1] at h hM
      refine ⟨fun z => absurd z (nI_ge (a := 1) (by omega) he), fun _ => ?_⟩
      refine c_sub2 (V := [94]) (P := fun mc ms post => w270_wp mc ms post 94) (post := fun m17_7 s17_7 v1 v2 v3 v4 v5 v6 => ∃ m23_15 s23_15 : Nat, 0 + m + m17_7 + m23_15 ≤ mc ∧ 0 + s + s17_7 + s23_15 ≤ ms ∧ (w269_wp m23_15 s23_15 (fun v9 v10 v11 v12 v13 v14 => w285_L26 mc ms post (nI c) (nI e) v9 v10 v11 v12 v13 v14 (0 + m + m17_7 + m23_15) (0 + s + s17_7 + s23_15)) (nI e).toInt64 v1 v2 v3 v4 v5 v6)) (c_pput (c := 94) (by decide)) hI hb hM (fun m2 s2 q' l' pl' pf' g' gd' hI hM hb => ?_)
      refine c_sub (V := x_dg e) (P := fun mc ms post => w269_wp mc ms post (nI e).toInt64) (post := fun _ _ => post) (c_num32 he) hI hb hM (fun m2 s2 q' l' pl' pf' g' gd' a _ hb => h _ _ _ _ _ _ ?_ trivial)
      rw [List.append_assoc, List.append_assoc] at a
      exact a
def x_term (c i j : Nat) : List Nat := (if c ≠ 1 ∨ i = 0 ∧ j = 0 then x_dg c ++ x_str (if i = 0 ∧ j = 0 then 1 else 2) else []) ++ (x_pow 120 i ++ (x_str (if 0 < i ∧ 0 < j then 2 else 1) ++ x_pow 121 j))
theorem c_term {c i j : Nat} (hc : c < 2 ^ 63) (hi : i < 2 ^ 31) (hj : j < 2 ^ 31) : pr_S (fun _ _ => True) (x_term c i j) (fun mc ms post => w284_wp mc ms post (nL c) (nI i) (nI j)) := by
  intro mc ms post q_b l_b pl pf g_b g_d M T U hI hb hM h
  show w284_wp mc ms post (nL c) (nI i) (nI j) q_b l_b pl pf g_b g_d
  have h72 : ∀ (x5 : Int32) (y : Nat), y < 32 → ∀ (q l : Nat) (pl pf : Int32) (g gd : Nat → Int32) (kc ks : Nat) (U1 : List Nat), pr_I M T l pl pf g U1 → pr_b kc ks l T mc ms → min 65536 (U1.length + (x_str y ++ x_pow 121 j).length) ≤ M → (U1 ++ (x_str y ++ x_pow 121 j) = U ++ x_term c i j) → w284_L72 mc ms post (nL c) (nI i) (nI j) x5 y q l pl pf g gd kc ks := by
    intro x5 y hy q l pl pf g gd kc ks U1 hI hb hM hU
    unfold w284_L72
    refine c_sub2 (V := x_str y) (P := fun mc ms post => w278_wp mc ms y post) (post := fun m72_7 s72_7 v1 v2 v3 v4 v5 v6 => ∃ m80_15 s80_15 : Nat, kc + m72_7 + m80_15 ≤ mc ∧ ks + s72_7 + s80_15 ≤ ms ∧ (w285_wp m80_15 s80_15 (fun v9 v10 v11 v12 v13 v14 => post v9 v10 v11 v12 v13 v14) 121 (nI j) v1 v2 v3 v4 v5 v6)) (c_text hy) hI hb hM (fun m s q' l' pl' pf' g' gd' hI hM hb => ?_)
    refine c_sub (V := x_pow 121 j) (P := fun mc ms post => w285_wp mc ms post 121 (nI j)) (post := fun _ _ => post) (c_power (c := 121) (by decide) hj) hI hb hM (fun m2 s2 q' l' pl' pf' g' gd' a _ hb => h _ _ _ _ _ _ ?_ trivial)
    rw [List.append_assoc, hU] at a
    exact a
  have h48 : ∀ (x5 : Int32) (q l : Nat) (pl pf : Int32) (g gd : Nat → Int32) (kc ks : Nat) (U1 : List Nat), pr_I M T l pl pf g U1 → pr_b kc ks l T mc ms → min 65536 (U1.length + (x_pow 120 i ++ (x_str (if 0 < i ∧ 0 < j then 2 else 1) ++ x_pow 121 j)).length) ≤ M → (U1 ++ (x_pow 120 i ++ (x_str (if 0 < i ∧ 0 < j then 2 else 1) ++ x_pow 121 j)) = U ++ x_term c i j) → w284_L48 mc ms post (nL c) (nI i) (nI j) x5 q l pl pf g gd kc ks := by
    intro x5 q l pl pf g gd kc ks U1 hI hb hM hU
    unfold w284_L48
    refine c_sub2 (V := x_pow 120 i) (P := fun mc ms post => w285_wp mc ms post 120 (nI i)) (post := fun m s v17 v18 v19 v20 v21 v22 => (nI i ≤ 0 → w284_L70 mc ms post (nL c) (nI i) (nI j) x5 v17 v18 v19 v20 v21 v22 (kc + m) (ks + s)) ∧ (¬ nI i ≤ 0 → (nI j ≤ 0 → w284_L70 mc ms post (nL c) (nI i) (nI j) x5 v17 v18 v19 v20 v21 v22 (kc + m) (ks + s)) ∧ (¬ nI j ≤ 0 → w284_L72 mc ms post (nL c) (nI i) (nI j) x5 2 v17 v18 v19 v20 v21 v22 (kc + m) (ks + s)))) (c_power (c := 120) (by decide) hi) hI hb hM (fun m s q' l' pl' pf' g' gd' hI hM hb => ?_)
    rw [← List.append_assoc] at hU
    by_cases z : 0 < i ∧ 0 < j
    · rw [if_pos z] at hM hU
      exact ⟨fun z1 => absurd z1 (nI_nle z.1 hi), fun _ => ⟨fun z1 => absurd z1 (nI_nle z.2 hj), fun _ => h72 x5 2 (by decide) _ _ _ _ _ _ _ _ _ hI hb hM hU⟩⟩
    · rw [if_neg z] at hM hU
      have h70 := h72 x5 1 (by decide) q' _ _ _ g' gd' _ _ _ hI hb hM hU
      exact ⟨fun _ => h70, fun z1 => ⟨fun _ => h70, fun z2 => absurd ⟨Nat.pos_of_ne_zero (fun e => z1 (by rw [e]; decide)), Nat.pos_of_ne_zero (fun e => z2 (by rw [e]; decide))⟩ z⟩⟩
  have h27 : ∀ (x5 : Int32), (c ≠ 1 ∨ i = 0 ∧ j = 0) → ((x5 = 0) ↔ ¬ (i = 0 ∧ j = 0)) → w284_L27 mc ms post (nL c) (nI i) (nI j) x5 q_b l_b pl pf g_b g_d 0 0 := by
    intro x5 hc1 hx
    have e : x_term c i j = x_dg c ++ (x_str (if i = 0 ∧ j = 0 then 1 else 2) ++ (x_pow 120 i ++ (x_str (if 0 < i ∧ 0 < j then 2 else 1) ++ x_pow 121 j))) := by
      unfold x_term; rw [if_pos hc1, List.append_assoc]
    rw [e] at hM
    unfold w284_L27
    refine c_sub2 (V := x_dg c) (P := fun mc ms post => w269_wp mc ms post (nL c)) (post := fun m s v33 v34 v35 v36 v37 v38 => (x5 = 0 → w284_L45 mc ms post (nL c) (nI i) (nI j) x5 2 v33 v34 v35 v36 v37 v38 (0 + m) (0 + s)) ∧ (¬ x5 = 0 → w284_L45 mc ms post (nL c) (nI i) (nI j) x5 1 v33 v34 v35 v36 v37 v38 (0 + m) (0 + s))) (c_num hc) hI hb hM (fun m s q' l' pl' pf' g' gd' hI hM hb => ?_)
    have h45 : ∀ y, y = (if i = 0 ∧ j = 0 then 1 else 2) → w284_L45 mc ms post (nL c) (nI i) (nI j) x5 y q' l' pl' pf' g' gd' (0 + m) (0 + s) := by
      intro y hy
      rw [← hy] at hM e
      unfold w284_L45
      refine c_sub2 (V := x_str y) (P := fun mc ms post => w278_wp mc ms y post) (post := fun m2 s2 v25 v26 v27 v28 v29 v30 => w284_L48 mc ms post (nL c) (nI i) (nI j) x5 v25 v26 v27 v28 v29 v30 (0 + m + m2) (0 + s + s2)) (c_text (by rw [hy]; split <;> decide)) hI hb hM (fun m s q' l' pl' pf' g' gd' hI hM hb => ?_)
      refine h48 _ _ _ _ _ _ _ _ _ _ hI hb hM ?_
      rw [e, List.append_assoc, List.append_assoc]
    refine ⟨fun z => h45 2 ?_, fun z => h45 1 ?_⟩
    · rw [if_neg (hx.1 z)]
    · rw [if_pos (Decidable.byContradiction (fun zz => z (hx.2 zz)))]
  have h14 : ∀ (x5 : Int32), ((x5 = 0) ↔ ¬ (i = 0 ∧ j = 0)) → w284_L14 mc ms post (nL c) (nI i) (nI j) x5 q_b l_b pl pf g_b g_d 0 0 := by
    intro x5 hx
    unfold w284_L14
    refine ⟨fun z => h27 x5 (Or.inl (fun e => z ((lg_cmp_eq _ _).2 (by rw [e]; rfl)))) hx, fun z => ⟨fun z0 => ?_, fun z0 => h27 x5 (Or.inr (Decidable.byContradiction (fun zz => z0 (hx.2 zz)))) hx⟩⟩
    have hc1 : c = 1 := nL_inj hc (by decide) ((lg_cmp_eq _ _).1 z)
    have e : x_term c i j = x_pow 120 i ++ (x_str (if 0 < i ∧ 0 < j then 2 else 1) ++ x_pow 121 j) := by
      unfold x_term
      rw [if_neg (fun o => o.elim (fun k => k hc1) (hx.1 z0)), List.nil_append]
    rw [e] at hM
    exact h48 _ _ _ _ _ _ _ _ _ _ hI hb hM (by rw [e])
  unfold w284_wp
  refine ⟨fun z => ?_, fun z => ⟨fun z2 => ?_, fun z2 => ?_⟩⟩
  · exact h14 0 ⟨fun _ e => z (by rw [e.1]; rfl), fun _ => rfl⟩
  · exact h14 0 ⟨fun _ e => z2 (by rw [e.2]; rfl), fun _ => rfl⟩
  · have a1 : i = 0 := Decidable.byContradiction (fun k => nI_ne0 (by omega) hi z)
    have a2 : j = 0 := Decidable.byContradiction (fun k => nI_ne0 (by omega) hj z2)
    exact h14 1 ⟨fun k => absurd k (by decide), fun k => absurd ⟨a1, a2⟩ k⟩
end CPT
