/-! PURE, texts: isPrime; the class's readEdges, readTail, readField, readHeads, readNames -/
def t_pl (n : Nat) : Nat → Nat → Bool
  | 0, _ => true
  | u + 1, d => if n < d * d then true else if n % d = 0 then false else t_pl n u (d + 1)
def t_prm (v : Int32) : Bool := if v < 2 ∨ 251 < v then false else t_pl v.toNatClampNeg 16 2
theorem t_prN {v : Int32} (h1 : ¬ v < 2) (h2 : ¬ 251 < v) : ∃ n, 2 ≤ n ∧ n ≤ 251 ∧ v = nI n := by
  have a1 : ¬ v.toInt < (2 : Int32).toInt := fun q => h1 (Int32.lt_iff_toInt_lt.2 q)
  have a2 : ¬ (251 : Int32).toInt < v.toInt := fun q => h2 (Int32.lt_iff_toInt_lt.2 q)
  have b1 : (2 : Int32).toInt = 2 := by decide
  have b2 : (251 : Int32).toInt = 251 := by decide
  have h0 : ¬ v < 0 := by
    intro q
    have := Int32.lt_iff_toInt_lt.1 q
    have b0 : (0 : Int32).toInt = 0 := by decide
    omega
  obtain ⟨j, hj, e⟩ := nI_of h0
  refine ⟨j, ?_, ?_, e⟩
  · rw [e, nI_toInt hj] at a1
    omega
  · rw [e, nI_toInt hj] at a2
    omega
theorem c_isPrime {post : Int32 → Prop} {v : Int32} (h : post (if t_prm v = true then 1 else 0)) : w161_wp post v := by
  refine ⟨fun w => ⟨rfl, ?_⟩, fun w => ⟨fun w2 => ?_, fun w2 => ⟨rfl, ?_⟩⟩⟩
  · have : t_prm v = false := if_pos (Or.inl w)
    rw [this] at h; exact h
  · have w3 : ¬ 251 < v := by
      intro q
      have a := Int32.lt_iff_toInt_lt.1 q
      have b := Int32.le_iff_toInt_le.1 w2
      omega
    obtain ⟨n, h1, h2, e⟩ := t_prN w w3
    have e2 : t_prm v = t_pl n 16 2 := by
      unfold t_prm
      rw [if_neg (fun q => q.elim w w3), e, nI_clamp (by omega)]
    rw [e2] at h
    rw [e]
    have main : ∀ (u d : Nat), d + u = 18 → 2 ≤ d → post (if t_pl n u d = true then 1 else 0) → w161_L16 post (u + 1) (nI n) (nI d) := by
      intro u
      induction u with
      | zero =>
        intro d hd hd2 h
        refine ⟨fun _ => ⟨rfl, h⟩, fun q => ?_⟩
        rw [pk_mul] at q
        exact absurd (nI_lt (by rw [show d = 18 by omega]; omega) (by rw [show d = 18 by omega]; omega)) q
      | succ u ih =>
        intro d hd hd2 h
        have hdd : d * d ≤ 18 * 18 := Nat.mul_le_mul (by omega) (by omega)
        unfold t_pl at h
        rw [show w161_L16 post (u + 1 + 1) (nI n) (nI d) = ((nI n < (nI d * nI d) → narrow .boolean (.int 1) = .int 1 ∧ post 1) ∧ (¬ nI n < (nI d * nI d) → ¬ nI d = 0 ∧ ((¬ (nI n - nI n / nI d * nI d) = 0 → ∀ z1 : Int32, z1 = nI d + 1 → (w161_L16 post (u + 1)) (nI n) z1) ∧ ((nI n - nI n / nI d * nI d) = 0 → narrow .boolean (.int 0) = .int 0 ∧ post 0)))) from rfl]
        rw [pk_mul, pk_rem (by omega) (by omega) (by omega)]
        have hm : n % d < 2 ^ 31 := Nat.lt_of_le_of_lt (Nat.mod_le _ _) (by omega)
        refine ⟨fun q => ⟨rfl, ?_⟩, fun q => ⟨nI_ne0 (by omega) (by omega), fun q2 z ez => ?_, fun q2 => ⟨rfl, ?_⟩⟩⟩
        · have := (nI_ltI (by omega) (by omega)).1 q
          rw [if_pos this] at h; exact h
        · have hq : ¬ n < d * d := fun k => q (nI_lt k (by omega))
          have hq2 : ¬ n % d = 0 := fun k => q2 (by rw [k]; rfl)
          rw [if_neg hq, if_neg hq2] at h
          rw [ez, nI_1]
          exact ih (d + 1) (by omega) (by omega) h
        · have hq : ¬ n < d * d := fun k => q (nI_lt k (by omega))
          have hq2 : n % d = 0 := (nI_eq hm (by omega)).1 q2
          rw [if_neg hq, if_pos hq2] at h; exact h
    exact ⟨17, main 16 2 rfl (Nat.le_refl _) h⟩
  · have w3 : 251 < v := by
      apply Int32.lt_iff_toInt_lt.2
      have : ¬ v.toInt ≤ (251 : Int32).toInt := fun q => w2 (Int32.le_iff_toInt_le.2 q)
      omega
    have : t_prm v = false := if_pos (Or.inr w3)
    rw [this] at h; exact h
theorem r_isPrime {post : Int32 → Prop} {v : Int32} (h : post (if t_prm v = true then 1 else 0)) : mip_wp post v := by
  have no : t_prm v = false → mip_L16 post v := by
    intro q
    rw [q] at h
    exact ⟨1, fun _ => ⟨rfl, h⟩, fun _ => ⟨fun _ => ⟨rfl, h⟩, fun q => absurd rfl q⟩⟩
  refine ⟨fun w => no (if_pos (Or.inl w)), fun w => ⟨fun w2 => no (if_pos (Or.inr w2)), fun w3 => ?_⟩⟩
  obtain ⟨n, h1, h2, e⟩ := t_prN w w3
  have e2 : t_prm v = t_pl n 16 2 := by
    unfold t_prm
    rw [if_neg (fun q => q.elim w w3), e, nI_clamp (by omega)]
  rw [e2] at h
  rw [e]
  have main : ∀ (u d : Nat), d + u = 18 → 2 ≤ d → post (if t_pl n u d = true then 1 else 0) → mip_L20 post (u + 2) (nI n) 1 (nI d) := by
    intro u
    induction u with
    | zero =>
      intro d hd hd2 h
      refine ⟨fun _ => ⟨rfl, h⟩, fun q => ?_⟩
      rw [pk_mul] at q
      exact absurd (nI_lt (by rw [show d = 18 by omega]; omega) (by rw [show d = 18 by omega]; omega)) q
    | succ u ih =>
      intro d hd hd2 h
      have hdd : d * d ≤ 18 * 18 := Nat.mul_le_mul (by omega) (by omega)
      unfold t_pl at h
      rw [show mip_L20 post (u + 1 + 2) (nI n) 1 (nI d) = ((nI n < (nI d * nI d) → mip_L49 post (nI n) 1 (nI d)) ∧ (¬ nI n < (nI d * nI d) → ((1 : Int32) = 0 → mip_L49 post (nI n) 1 (nI d)) ∧ (¬ (1 : Int32) = 0 → ¬ nI d = 0 ∧ (((nI n - nI n / nI d * nI d) = 0 → mip_L42 (mip_L20 post (u + 2)) post (nI n) 1 (nI d) 0) ∧ (¬ (nI n - nI n / nI d * nI d) = 0 → mip_L42 (mip_L20 post (u + 2)) post (nI n) 1 (nI d) 1))))) from rfl]
      rw [pk_mul, pk_rem (by omega) (by omega) (by omega)]
      have hm : n % d < 2 ^ 31 := Nat.lt_of_le_of_lt (Nat.mod_le _ _) (by omega)
      refine ⟨fun q => ⟨rfl, ?_⟩, fun q => ⟨fun q1 => t_10 q1, fun _ => ⟨nI_ne0 (by omega) (by omega), fun q2 z ez => ?_, fun q2 z ez => ?_⟩⟩⟩
      · have := (nI_ltI (by omega) (by omega)).1 q
        rw [if_pos this] at h; exact h
      · have hq : ¬ n < d * d := fun k => q (nI_lt k (by omega))
        have hq2 : n % d = 0 := (nI_eq hm (by omega)).1 q2
        rw [if_neg hq, if_pos hq2] at h
        exact ⟨fun _ => ⟨rfl, h⟩, fun _ => ⟨fun _ => ⟨rfl, h⟩, fun q => absurd rfl q⟩⟩
      · have hq : ¬ n < d * d := fun k => q (nI_lt k (by omega))
        have hq2 : ¬ n % d = 0 := fun k => q2 (by rw [k]; rfl)
        rw [if_neg hq, if_neg hq2] at h
        rw [ez, nI_1]
        exact ih (d + 1) (by omega) (by omega) h
  exact ⟨18, main 16 2 rfl (Nat.le_refl _) h⟩
/-- the edges' numbers -/
def t_ev (b : Nat → Int32) (L : Nat) : Nat → Nat → List Int32
  | 0, _ => []
  | u + 1, i => t_v b L i :: t_v b L (t_e b L i) :: (if t_is b L 44 (t_e b L (t_e b L i)) = true then t_ev b L u (t_e b L (t_e b L (t_e b L i))) else [])
section CRE2
variable {N L : Nat} {b : Nat → Int32} {sv : Nat} {sg sf s2 sd sh sx : Int32} {i : Nat} {tv : Int32}
theorem c_readEdges {post : Int32 → s_P} {gn : Nat → Int32} (hL : L ≤ N) (hN : N < 2 ^ 31) (hL2 : L ≤ 16384) (hi : i ≤ L) (hv : t_k b L i = 2 → tv = t_v b L i)
    (h1 : (t_ed b L (L + 1) i).1 = true → ∀ gn', (∀ j x, j < 160 → (t_ev b L (L + 1) i)[j]? = some x → gn' j = x) → s_at b L (t_ed b L (L + 1) i).2 (fun a1 a2 a3 a4 a5 a6 => post 1 sv sg sf s2 sd sh sx (nI (t_ev b L (L + 1) i).length) 0 1 a1 a2 a3 a4 a5 gn' a6))
    (h0 : (t_ed b L (L + 1) i).1 = false → ∀ m gn', s_at b L (t_ed b L (L + 1) i).2 (fun a1 a2 a3 a4 a5 a6 => post 0 sv sg sf s2 sd sh sx m 0 1 a1 a2 a3 a4 a5 gn' a6)) :
    w165_wp N post sv sg sf s2 sd sh sx 0 0 1 (nI L) (nI (t_e b L i)) (nI (t_j b L i)) (t_ck (t_k b L i)) tv gn b := by
  have main : ∀ (u i k : Nat) (P : List Int32) (gn : Nat → Int32) (tv : Int32), i ≤ L → L - i ≤ u → k ≤ i → P.length ≤ i → (t_k b L i = 2 → tv = t_v b L i) → (∀ j x, j < 160 → P[j]? = some x → gn j = x) →
      ((t_ed b L (u + 1) i).1 = true → ∀ gn', (∀ j x, j < 160 → (P ++ t_ev b L (u + 1) i)[j]? = some x → gn' j = x) → s_at b L (t_ed b L (u + 1) i).2 (fun a1 a2 a3 a4 a5 a6 => post 1 sv sg sf s2 sd sh sx (nI (P ++ t_ev b L (u + 1) i).length) 0 1 a1 a2 a3 a4 a5 gn' a6)) →
      ((t_ed b L (u + 1) i).1 = false → ∀ m gn', s_at b L (t_ed b L (u + 1) i).2 (fun a1 a2 a3 a4 a5 a6 => post 0 sv sg sf s2 sd sh sx m 0 1 a1 a2 a3 a4 a5 gn' a6)) →
      w165_L2 N post (u + 1) (nI k) sv sg sf s2 sd sh sx (nI P.length) 0 1 (nI L) (nI (t_e b L i)) (nI (t_j b L i)) (t_ck (t_k b L i)) tv gn b := by
    intro u
    induction u with
    | zero =>
      intro i k P gn tv hi hu hk hP hv hg h1 h0
      have hk0 : t_k b L i = 0 := if_pos (by have := t_jl (b := b) hi; omega)
      have n2 : t_is b L 2 i = false := by unfold t_is; rw [hk0]; decide
      have e : t_ed b L 1 i = (false, i) := by
        show (if _ then _ else _) = _
        rw [if_neg (by rw [n2]; decide)]
      rw [e] at h0
      have c0 : t_ck (t_k b L i) = 0 := by rw [hk0]; decide
      have h0 := h0 rfl
      refine ⟨fun _ => ⟨rfl, h0 _ gn tv hv⟩, fun _ => ⟨1, fun q => absurd q (by decide), fun _ => ⟨fun q => ?_, fun _ => ⟨rfl, h0 _ gn tv hv⟩⟩⟩⟩
      rw [c0] at q; exact absurd q (by decide)
    | succ u ih =>
      intro i k P gn tv hi hu hk hP hv hg h1 h0
      have ed : t_ed b L (u + 1 + 1) i = if t_is b L 2 i = true then (if t_is b L 2 (t_e b L i) = true then (if t_is b L 44 (t_e b L (t_e b L i)) = true then t_ed b L (u + 1) (t_e b L (t_e b L (t_e b L i))) else (true, t_e b L (t_e b L i))) else (false, t_e b L i)) else (false, i) := rfl
      have ev : t_ev b L (u + 1 + 1) i = t_v b L i :: t_v b L (t_e b L i) :: (if t_is b L 44 (t_e b L (t_e b L i)) = true then t_ev b L (u + 1) (t_e b L (t_e b L (t_e b L i))) else []) := rfl
      rw [ed] at h1 h0
      rw [ev] at h1
      refine ⟨fun q => ⟨rfl, ?_⟩, fun _ => ⟨3, fun q => absurd q (by decide), fun _ => ⟨fun q3 => ?_, fun q3 => ⟨rfl, ?_⟩⟩⟩⟩
      · have hk4 : 16384 ≤ k := (nI_leI (a := 16384) (b := k) (by omega) (by omega)).1 q
        have hk0 : t_k b L i = 0 := if_pos (by have := t_jl (b := b) hi; omega)
        have n2 : ¬ t_is b L 2 i = true := by unfold t_is; rw [hk0]; decide
        rw [if_neg n2] at h0
        exact h0 rfl _ gn tv hv
      · have k2 := t_ckk.1.1 q3
        have n2 : t_is b L 2 i = true := decide_eq_true k2
        obtain ⟨a1, a2⟩ := t_isj hi (by decide) n2
        have ev1 := hv k2
        rw [if_pos n2] at h1 h0
        refine c_keep (by omega) hg (fun gn1 hg1 => c_stepS hL hN hi (fun v1 hv1 z e => ?_))
        rw [e]
        have l1 : (P ++ [tv]).length = P.length + 1 := by simp
        refine ⟨fun q => absurd q (by decide), fun _ => ⟨fun q4 => ?_, fun q4 => ⟨rfl, ?_⟩⟩⟩
        · have k3 := t_ckk.1.1 q4
          have n3 : t_is b L 2 (t_e b L i) = true := decide_eq_true k3
          obtain ⟨a3, a4⟩ := t_isj a2 (by decide) n3
          have ev2 := hv1 k3
          rw [if_pos n3] at h1 h0
          refine c_keep (by omega) hg1 (fun gn2 hg2 => c_stepS hL hN a2 (fun v2 hv2 z2 e2 => ?_))
          rw [e2]
          have l2 : (P ++ [tv] ++ [v1]).length = P.length + 2 := by simp
          refine ⟨fun _ => ⟨fun q5 => ?_, fun q5 => ⟨rfl, ?_⟩⟩, fun q => absurd (by decide) q⟩
          · have k5 := t_ckk.2.1.1 q5
            have n5 : t_is b L 44 (t_e b L (t_e b L i)) = true := decide_eq_true k5
            obtain ⟨a5, a6⟩ := t_isj a4 (by decide) n5
            rw [if_pos n5] at h1 h0
            rw [if_pos n5] at h1
            refine c_stepS hL hN a4 (fun v3 hv3 z3 e3 => ?_)
            rw [e3, nI_1]
            refine ih _ (k + 1) (P ++ [tv] ++ [v1]) gn2 v3 a6 (by omega) (by omega) (by omega) hv3 hg2 ?_ h0
            intro ht gn' hg'
            have := h1 ht gn'
            rw [ev1, ev2, List.append_assoc, List.append_assoc] at hg' ⊢
            exact this hg'
          · have n5 : ¬ t_is b L 44 (t_e b L (t_e b L i)) = true := fun q => q5 (t_ckk.2.1.2 (of_decide_eq_true q))
            rw [if_neg n5] at h1
            rw [if_neg n5] at h1
            have := h1 rfl gn2
            rw [ev1, ev2, List.append_assoc] at hg2 ⊢
            exact this hg2 v2 hv2
        · have n3 : ¬ t_is b L 2 (t_e b L i) = true := fun q => q4 (t_ckk.1.2 (of_decide_eq_true q))
          rw [if_neg n3] at h0
          exact h0 rfl _ gn1 v1 hv1
      · have n2 : ¬ t_is b L 2 i = true := fun q => q3 (t_ckk.1.2 (of_decide_eq_true q))
        rw [if_neg n2] at h0
        exact h0 rfl _ gn tv hv
  refine ⟨L + 1, main L i 0 [] gn tv hi (by omega) (by omega) (Nat.zero_le _) hv (fun j x _ hx => by simp at hx) (fun ht gn' hg' => ?_) h0⟩
  rw [List.nil_append] at hg' ⊢
  exact h1 ht gn' hg'
end CRE2
