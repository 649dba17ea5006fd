/-! PURE, the class: Product: wide -/
section CPW
variable {M T : Nat} {U : List Nat}
theorem c_wid48 {mc ms D n : Nat} {x2 : Int32} {g_d : Nat → Int32} {a b c : Int64} {post : Nat → Nat → Int32 → Int32 → (Nat → Int32) → (Nat → Int32) → Int64 → Int64 → Int64 → Prop} (hD : D ≤ 48) (hgd : ∀ i, i < D → g_d i = nI (48 + n / 10 ^ i % 10)) (hM : min 65536 (U.length + D) ≤ M) (h : ∀ q' l' pl' pf' g', pr_I M T l' pl' pf' g' (U ++ x_dec n D) → post q' l' pl' pf' g' g_d a b c) :
    ∀ p, p ≤ D → ∀ (q l : Nat) (pl pf : Int32) (g : Nat → Int32) (kc ks : Nat), pr_I M T l pl pf g (U ++ (x_dec n D).take (D - p)) → pr_b kc ks l T mc ms → w331_L48 mc ms post (p + 1) x2 (nI p - 1) q l pl pf g g_d a b c kc ks := by
  intro p
  induction p with
  | zero =>
    intro hp q l pl pf g kc ks hI hb
    refine ⟨fun _ => ?_, fun z => absurd (by decide) z⟩
    rw [List.take_of_length_le (by rw [x_decl]; omega)] at hI
    exact h _ _ _ _ _ hI
  | succ p ih =>
    intro hp q l pl pf g kc ks hI hb
    rw [nI_pred]
    refine ⟨fun z => absurd z (nI_pos (by omega)), fun _ => ⟨b_in (by omega) (by omega), ?_⟩⟩
    rw [nI_clamp (show p < 2 ^ 31 by omega), hgd p hp]
    refine c_sub (V := [48 + n / 10 ^ p % 10]) (P := fun mc ms post => w270_wp mc ms post (nI (48 + n / 10 ^ p % 10))) (post := fun m s v3 v4 v5 v6 v7 v8 => ∀ z9 : Int32, z9 = nI p + (-1) → w331_L48 mc ms post (p + 1) x2 z9 v3 v4 v5 v6 v7 v8 a b c (kc + m) (ks + s)) (c_pput (by omega)) hI hb (by
        rw [List.length_append, List.length_take, x_decl, show [48 + n / 10 ^ p % 10].length = 1 from rfl]; omega) (fun m s q' l' pl' pf' g' gd' a hR b => ?_)
    intro z9 e9
    rw [e9, hR, ← Int32.sub_eq_add_neg]
    refine ih (by omega) _ _ _ _ _ _ _ ?_ b
    rw [x_dect n D p hp, ← List.append_assoc]; exact a
/-- a wide number printed; the number itself is used up -/
theorem c_wide {n : Nat} {lo mi hi : Int64} (hn : n < 2 ^ 144) (hw : wd n lo mi hi) : pr_S (fun _ _ => True) (x_dg n) (fun mc ms post q l pl pf g gd => ∀ Post : Nat → Nat → Int32 → Int32 → (Nat → Int32) → (Nat → Int32) → Int64 → Int64 → Int64 → Prop, (∀ q l pl pf g gd a b c, post q l pl pf g gd → Post q l pl pf g gd a b c) → w331_wp mc ms Post q l pl pf g gd lo mi hi) := by
  intro mc ms post q_b l_b pl pf g_b g_d M T U hI hb hM h Post hPost
  have hD := x_dgD (n := n) (Nat.lt_of_lt_of_le hn (by decide))
  unfold x_dg at hM h
  generalize x_nD 47 n = D at *
  rw [x_decl] at hM
  obtain ⟨d1, d2, d3, d4⟩ := hD
  unfold w331_wp
  have main : ∀ (t i : Nat), i + t = D → ∀ (gd : Nat → Int32) (lo mi hi : Int64), wd (n / 10 ^ i) lo mi hi → (∀ j, j < i → gd j = nI (48 + n / 10 ^ j % 10)) → w331_L4 mc ms Post (t + 1) (nI i) (nI i) q_b l_b pl pf g_b gd lo mi hi 0 0 := by
    intro t
    induction t with
    | zero =>
      intro i hi gd lo mi hi' hw hgd
      have hiD : i = D := by omega
      have h44 : w331_L44 mc ms Post (nI i) (nI i) q_b l_b pl pf g_b gd lo mi hi' 0 0 := by
        unfold w331_L44
        intro z10 e10
        rw [e10, hiD]
        refine ⟨D + 1, c_wid48 (n := n) (D := D) (U := U) (M := M) (T := T) d2 (fun j hj => hgd j (by omega)) hM (fun q' l' pl' pf' g' a => hPost _ _ _ _ _ _ _ _ _ (h _ _ _ _ _ _ a trivial)) D (Nat.le_refl D) _ _ _ _ _ _ _ ?_ hb⟩
        rw [Nat.sub_self, List.take_zero, List.append_nil]; exact hI
      refine ⟨fun _ => h44, fun _ => ⟨fun z => absurd z (nI_ne0 (by omega) (by omega)), fun _ => c_wzero hw ⟨fun _ => h44, fun z => ?_⟩⟩⟩
      rw [if_pos (by rw [hiD, Nat.div_eq_of_lt d3])] at z
      exact absurd z (by decide)
    | succ t ih =>
      intro i hi gd lo mi hi' hw hgd
      have h21 : w331_L21 (w331_L4 mc ms Post (t + 1)) mc ms Post (nI i) (nI i) q_b l_b pl pf g_b gd lo mi hi' 0 0 := by
        unfold w331_L21
        refine c_tenth hw (fun lo2 mi2 hi2 hw2 => ⟨b_in (by omega) (by omega), fun z15 e15 z16 e16 => ?_⟩)
        have hm : n / 10 ^ i % 10 < 10 := Nat.mod_lt _ (by decide)
        rw [e15, e16, nI_1, nI_clamp (show i < 2 ^ 31 by omega), show (48 : Int32) + nI (n / 10 ^ i % 10) = nI (48 + n / 10 ^ i % 10) from (Int32.ofNat_add 48 _).symm, b_byte _ (by omega)]
        rw [Nat.div_div_eq_div_mul, ← Nat.pow_succ] at hw2
        refine ih (i + 1) (by omega) _ _ _ _ hw2 (fun j hj => ?_)
        by_cases z : j = i
        · rw [z, pk_us]
        · rw [pk_un z]; exact hgd j (by omega)
      refine ⟨fun z => absurd z (nI_ge (b := 48) (by omega) (by decide)), fun _ => ⟨fun _ => h21, fun z0 => c_wzero hw ⟨fun z => ?_, fun _ => h21⟩⟩⟩
      have hi0 : i ≠ 0 := fun e => z0 (by rw [e]; rfl)
      have z3 : n < 10 ^ i := by
        have hp : 0 < 10 ^ i := Nat.pow_pos (by decide)
        by_cases k : n / 10 ^ i = 0
        · exact (Nat.div_eq_zero_iff_lt hp).1 k
        · rw [if_neg k] at z; exact absurd rfl z
      have z4 : 10 ^ i ≤ 10 ^ (D - 1) := Nat.pow_le_pow_right (by decide) (by omega)
      omega
  have h0 := main D 0 (by omega) g_d lo mi hi (by rw [Nat.pow_zero, Nat.div_one]; exact hw) (fun j hj => absurd hj (Nat.not_lt_zero j))
  exact ⟨_, h0⟩
end CPW
