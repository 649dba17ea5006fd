/-! PURE, the class: Product: number, setLine, power, term -/
def nL (n : Nat) : Int64 := Int64.ofNat n
theorem nL_toInt {n : Nat} (h : n < 2 ^ 63) : (nL n).toInt = (n : Int) := Int64.toInt_ofNat_of_lt h
theorem nL_inj {a b : Nat} (ha : a < 2 ^ 63) (hb : b < 2 ^ 63) (h : nL a = nL b) : a = b := by
  have := congrArg Int64.toInt h
  rw [nL_toInt ha, nL_toInt hb] at this; omega
theorem nL_div {n : Nat} (h : n < 2 ^ 63) : nL n / 10 = nL (n / 10) := by
  apply Int64.toInt_inj.1
  rw [Int64.toInt_div, nL_toInt h, nL_toInt (show n / 10 < 2 ^ 63 by omega), show (10 : Int64).toInt = ((10 : Nat) : Int) from rfl, ← Int.ofNat_tdiv, Int.bmod_eq_of_le (by omega) (by omega)]
theorem nL_dig {n : Nat} : (48 + (nL n - nL (n / 10) * 10)).toInt32 = nI (48 + n % 10) := by
  have e1 : nL (n / 10) * 10 = nL (n / 10 * 10) := (Int64.ofNat_mul (n / 10) 10).symm
  have e2 : nL n = nL (n % 10) + nL (n / 10 * 10) := by
    have : n = n % 10 + n / 10 * 10 := by omega
    have h2 : nL (n % 10 + n / 10 * 10) = nL (n % 10) + nL (n / 10 * 10) := Int64.ofNat_add _ _
    rw [← h2, ← this]
  have e3 : nL n - nL (n / 10) * 10 = nL (n % 10) := by
    rw [e1]
    generalize nL (n / 10 * 10) = y at e2 ⊢
    rw [e2]
    exact Int64.add_sub_cancel _ _
  rw [e3]
  have e4 : 48 + nL (n % 10) = nL (48 + n % 10) := (Int64.ofNat_add 48 (n % 10)).symm
  rw [e4]
  exact Int64.toInt32_ofNat
def x_D (n D : Nat) : Prop := 1 ≤ D ∧ D ≤ 48 ∧ n < 10 ^ D ∧ (D = 1 ∨ 10 ^ (D - 1) ≤ n)
def x_dec (n D : Nat) : List Nat := (List.range D).map (fun i => 48 + n / 10 ^ (D - 1 - i) % 10)
theorem x_decl (n D : Nat) : (x_dec n D).length = D := by unfold x_dec; rw [List.length_map, List.length_range]
theorem x_dect (n D p : Nat) (h : p < D) : (x_dec n D).take (D - p) = (x_dec n D).take (D - (p + 1)) ++ [48 + n / 10 ^ p % 10] := by
  rw [show D - p = D - (p + 1) + 1 by omega, List.take_succ]
  congr 1
  unfold x_dec
  rw [List.getElem?_map, List.getElem?_range (by omega)]
  show [48 + n / 10 ^ (D - 1 - (D - (p + 1))) % 10] = _
  rw [show D - 1 - (D - (p + 1)) = p by omega]
section CPN
variable {q_b l_b M T : Nat} {pl pf : Int32} {g_b g_d : Nat → Int32} {U : List Nat}
theorem c_num65 {mc ms D n : Nat} {x1 x3 : Int64} {x5 : Int32} {post : pr_P} (hD : D ≤ 48) (hgd : ∀ i, i < D → g_d i = nI (48 + n / 10 ^ i % 10)) (hM : min 65536 (U.length + D) ≤ M) (h : ∀ q' l' pl' pf' g', pr_I M T l' pl' pf' g' (U ++ x_dec n D) → post q' l' pl' pf' g' g_d) :
    ∀ p, p ≤ D → ∀ (q l : Nat) (pl pf : Int32) (g : Nat → Int32) (kc ks : Nat), pr_I M T l pl pf g (U ++ (x_dec n D).take (D - p)) → pr_b kc ks l T mc ms → w269_L65 mc ms post (p + 1) x1 x3 x5 (nI p - 1) q l pl pf g g_d kc ks := by
  intro p
  induction p with
  | zero =>
    intro hp q l pl pf g kc ks hI hb
    refine ⟨fun _ => ?_, fun z => absurd (by decide) z⟩
    rw [List.take_of_length_le (by rw [x_decl]; omega)] at hI
    exact h _ _ _ _ _ hI
  | succ p ih =>
    intro hp q l pl pf g kc ks hI hb
    rw [nI_pred]
    refine ⟨fun z => absurd z (nI_pos (by omega)), fun _ => ⟨b_in (by omega) (by omega), ?_⟩⟩
    rw [nI_clamp (show p < 2 ^ 31 by omega), hgd p hp]
    refine c_sub (V := [48 + n / 10 ^ p % 10]) (P := fun mc ms post => w270_wp mc ms post (nI (48 + n / 10 ^ p % 10))) (post := fun m s v3 v4 v5 v6 v7 v8 => ∀ z9 : Int32, z9 = nI p + (-1) → w269_L65 mc ms post (p + 1) x1 x3 x5 z9 v3 v4 v5 v6 v7 v8 (kc + m) (ks + s)) (c_pput (by omega)) hI hb (by
        rw [List.length_append, List.length_take, x_decl, show [48 + n / 10 ^ p % 10].length = 1 from rfl]; omega) (fun m s q' l' pl' pf' g' gd' a hR b => ?_)
    intro z9 e9
    rw [e9, hR, ← Int32.sub_eq_add_neg]
    refine ih (by omega) _ _ _ _ _ _ _ ?_ b
    rw [x_dect n D p hp, ← List.append_assoc]; exact a
theorem c_number {n D : Nat} (hn : n < 2 ^ 63) (hD : x_D n D) : pr_S (fun _ _ => True) (x_dec n D) (fun mc ms post => w269_wp mc ms post (nL n)) := by
  intro mc ms post q_b l_b pl pf g_b g_d M T U hI hb hM h
  show w269_wp mc ms post (nL n) q_b l_b pl pf g_b g_d
  rw [x_decl] at hM
  obtain ⟨d1, d2, d3, d4⟩ := hD
  unfold w269_wp
  have main : ∀ (t i : Nat), i + t = D → ∀ gd : Nat → Int32, (∀ j, j < i → gd j = nI (48 + n / 10 ^ j % 10)) → w269_L8 mc ms post (t + 1) (nL n) (nL (n / 10 ^ i)) (nI i) (nI i) q_b l_b pl pf g_b gd 0 0 := by
    intro t
    induction t with
    | zero =>
      intro i hi gd hgd
      have hiD : i = D := by omega
      have h59 : w269_L59 mc ms post (nL n) (nL (n / 10 ^ i)) (nI i) (nI i) q_b l_b pl pf g_b gd 0 0 := by
        unfold w269_L59
        intro z10 e10
        rw [e10, hiD]
        refine ⟨D + 1, c_num65 (n := n) (D := D) (U := U) (M := M) (T := T) d2 (fun j hj => hgd j (by omega)) hM (fun q' l' pl' pf' g' a => h _ _ _ _ _ _ a trivial) D (Nat.le_refl D) _ _ _ _ _ _ _ ?_ hb⟩
        rw [Nat.sub_self, List.take_zero, List.append_nil]; exact hI
      refine ⟨fun _ => h59, fun _ => ⟨fun z => absurd z (nI_ne0 (by omega) (by omega)), fun _ => ⟨fun _ => h59, fun z => absurd ((lg_cmp_eq _ _).2 ?_) z⟩⟩⟩
      rw [hiD, Nat.div_eq_of_lt d3]; rfl
    | succ t ih =>
      intro i hi gd hgd
      have hq : n / 10 ^ i < 2 ^ 63 := Nat.lt_of_le_of_lt (Nat.div_le_self _ _) hn
      have h26 : w269_L26 (w269_L8 mc ms post (t + 1)) mc ms post (nL n) (nL (n / 10 ^ i)) (nI i) (nI i) q_b l_b pl pf g_b gd 0 0 := by
        unfold w269_L26
        refine ⟨b_in (by omega) (by omega), fun z11 e11 z12 e12 z13 e13 => ?_⟩
        rw [e11, e12, e13, nI_1, nI_clamp (show i < 2 ^ 31 by omega), nL_div hq, nL_dig, b_byte _ (by omega), Nat.div_div_eq_div_mul, ← Nat.pow_succ]
        refine ih (i + 1) (by omega) _ (fun j hj => ?_)
        by_cases z : j = i
        · rw [z, pk_us]
        · rw [pk_un z]; exact hgd j (by omega)
      refine ⟨fun z => absurd z (nI_ge (b := 48) (by omega) (by decide)), fun _ => ⟨fun _ => h26, fun z0 => ⟨fun z => ?_, fun _ => h26⟩⟩⟩
      have z' : nL (n / 10 ^ i) = nL 0 := (lg_cmp_eq _ _).1 z
      have z2 := nL_inj hq (by decide) z'
      have hi0 : i ≠ 0 := fun e => z0 (by rw [e]; rfl)
      have z3 : n < 10 ^ i := by
        have hp : 0 < 10 ^ i := Nat.pow_pos (by decide)
        exact (Nat.div_eq_zero_iff_lt hp).1 z2
      have z4 : 10 ^ i ≤ 10 ^ (D - 1) := Nat.pow_le_pow_right (by decide) (by omega)
      omega
  have h0 := main D 0 (by omega) g_d (fun j hj => absurd hj (Nat.not_lt_zero j))
  rw [Nat.pow_zero, Nat.div_one] at h0
  exact ⟨_, h0⟩
end CPN
