/-! PURE, the class: readsWhole; within, rises, asSet, numbersWrong; matroidAt, obstacle -/
section CRW
variable {q_y N L : Nat} {b : Nat → Int32} {d1 d2 d3 d4 : Int32} {d5 : Option Nat}
theorem c_readsWhole {post : Int32 → Int32 → Int32 → Int32 → Int32 → Option Nat → Nat → Int32 → Int32 → Int32 → Int32 → Int32 → (Nat → Int32) → Nat → Int32 → Int32 → Int32 → Int32 → Int32 → Int32 → Int32 → Int32 → Int32 → (Nat → Int32) → Prop} {sv q_s : Nat} {sg sf s2 sd sh sx sm sr se tl tb ts tk tv : Int32} {gn : Nat → Int32} (hL : L ≤ N) (hN : N < 2 ^ 31) (hL2 : L ≤ 16384) (hv21 : sv < 21)
    (h : ∀ sv sg sf s2 sd sh sx sm sr se gn, sv < 21 → s_at b L (t_scr b L (L + 1) 0 0).2 (fun a1 a2 a3 a4 a5 a6 => post (if (t_scr b L (L + 1) 0 0).1 = true then 1 else 0) d1 d2 d3 d4 d5 q_y a1 a2 a3 a4 a5 a6 sv sg sf s2 sd sh sx sm sr se gn)) :
    w136_wp q_y N post (nI L) d1 d2 d3 d4 d5 q_s tl tb ts tk tv b sv sg sf s2 sd sh sx sm sr se gn := by
  unfold w136_wp w137_wp
  have main : ∀ (u n i : Nat) (sv : Nat) (sg sf s2 sd sh sx sm sr se tv : Int32) (gn : Nat → Int32), i ≤ L → L - i ≤ u → n ≤ 400 → sv < 21 → (t_k b L i = 2 → tv = t_v b L i) → (∀ sv sg sf s2 sd sh sx sm sr se gn, sv < 21 → s_at b L (t_scr b L (u + 1) n i).2 (fun a1 a2 a3 a4 a5 a6 => post (if (t_scr b L (u + 1) n i).1 = true then 1 else 0) d1 d2 d3 d4 d5 q_y a1 a2 a3 a4 a5 a6 sv sg sf s2 sd sh sx sm sr se gn)) → w136_L14 q_y N post (u + 1) (nI n) d1 d2 d3 d4 d5 q_y (nI L) (nI (t_e b L i)) (nI (t_j b L i)) (t_ck (t_k b L i)) tv b sv sg sf s2 sd sh sx sm sr se gn := by
    intro u
    induction u with
    | zero =>
      intro n i sv sg sf s2 sd sh sx sm sr se tv gn hi hu hn hv21 hv h
      have hk0 : t_k b L i = 0 := if_pos (by have := t_jl (b := b) hi; omega)
      have e : t_scr b L 1 n i = (true, i) := by
        show (if _ then _ else _) = _
        rw [if_pos hk0]
      rw [e] at h
      have c0 : t_ck (t_k b L i) = 0 := t_ckk.2.2.2.2.2.2.2.2 hk0
      have fin : w136_L49 q_y N post d1 d2 d3 d4 d5 q_y (nI L) (nI (t_e b L i)) (nI (t_j b L i)) (t_ck (t_k b L i)) tv b sv sg sf s2 sd sh sx sm sr se gn := ⟨fun q => absurd c0 q, fun _ => ⟨rfl, h sv sg sf s2 sd sh sx sm sr se gn hv21 tv hv⟩⟩
      exact ⟨rfl, fun _ => fin, fun _ => ⟨fun _ => fin, fun q => absurd c0 q⟩⟩
    | succ u ih =>
      intro n i sv sg sf s2 sd sh sx sm sr se tv gn hi hu hn hv21 hv h
      have e : t_scr b L (u + 1 + 1) n i = if t_k b L i = 0 then (true, i) else if n = 400 then (false, i) else if (t_st b L i).1 = true then t_scr b L (u + 1) (n + 1) (t_st b L i).2 else t_st b L i := rfl
      rw [e] at h
      refine ⟨rfl, fun q => ?_, fun q => ⟨fun q0 => ?_, fun q0 => ?_⟩⟩
      · have hn4 : n = 400 := by
          have := (nI_leI (a := 400) (b := n) (by omega) (by omega)).1 q
          omega
        refine ⟨fun q2 => ⟨rfl, ?_⟩, fun q2 => ⟨rfl, ?_⟩⟩
        · have : ¬ t_k b L i = 0 := fun k => q2 (t_ckk.2.2.2.2.2.2.2.2 k)
          rw [if_neg this, if_pos hn4] at h
          exact h sv sg sf s2 sd sh sx sm sr se gn hv21 tv hv
        · have := t_ckk.2.2.2.2.2.2.2.1 q2
          rw [if_pos this] at h
          exact h sv sg sf s2 sd sh sx sm sr se gn hv21 tv hv
      · have := t_ckk.2.2.2.2.2.2.2.1 q0
        rw [if_pos this] at h
        exact ⟨fun q => absurd q0 q, fun _ => ⟨rfl, h sv sg sf s2 sd sh sx sm sr se gn hv21 tv hv⟩⟩
      · have hk : ¬ t_k b L i = 0 := fun k => q0 (t_ckk.2.2.2.2.2.2.2.2 k)
        have hn4 : ¬ n = 400 := fun k => q (by rw [k]; exact Int32.le_refl _)
        rw [if_neg hk, if_neg hn4] at h
        refine c_read hL hN hL2 hi hv21 hv (fun ht v tg fi se fd hd nx mn rw ev gn' hok v1 hv1 => ⟨fun _ z e2 => ?_, fun q => t_10 q⟩) (fun hf v tg fi se fd hd nx mn rw ev gn' hvl v1 hv1 => ⟨fun q => absurd rfl q, fun _ => ⟨rfl, ?_⟩⟩)
        · rw [if_pos ht] at h
          rw [e2, nI_1]
          have hadv := t_stadv hi ht
          exact ih (n + 1) _ v tg fi se fd hd nx mn rw ev v1 gn' (t_stl hi) (by omega) (by omega) hok.1.1 hv1 h
        · have h' : ∀ sv sg sf s2 sd sh sx sm sr se gn, sv < 21 → s_at b L (t_st b L i).2 (fun a1 a2 a3 a4 a5 a6 => post (if (t_st b L i).1 = true then 1 else 0) d1 d2 d3 d4 d5 q_y a1 a2 a3 a4 a5 a6 sv sg sf s2 sd sh sx sm sr se gn) := by
            have e3 : (if (t_st b L i).1 = true then t_scr b L (u + 1) (n + 1) (t_st b L i).2 else t_st b L i) = t_st b L i := if_neg (by rw [hf]; decide)
            rw [e3] at h
            exact h
          have := h' v tg fi se fd hd nx mn rw ev gn' hvl v1 hv1
          rw [hf] at this
          exact this
  refine c_step (i := 0) rfl hL hN (Nat.zero_le _) (fun v hv => ⟨L + 1, ?_⟩)
  exact main L 0 0 sv sg sf s2 sd sh sx sm sr se v gn (Nat.zero_le _) (by omega) (by omega) hv21 hv h
end CRW
/-- numbers between 0 and a bound, all; rising -/
def t_wi (vs : List Int32) (bd : Int32) : Bool := decide (∀ j, j < vs.length → ¬ vs.getD j 0 < 0 ∧ vs.getD j 0 < bd)
def t_ri (vs : List Int32) : Bool := decide (∀ j, j < vs.length - 1 → vs.getD j 0 < vs.getD (j + 1) 0)
/-- numbersWrong -/
def t_bad (v : Nat) (fd hd nx : Int32) (vs : List Int32) (rw ev size : Int32) : Bool :=
  if v = 0 then decide (fd = -1) || decide (hd < 0) || decide (12 < hd) || decide (12 < rw) || decide (ev = 0)
  else if v = 1 then decide (hd < 1) || decide (13 < hd) || decide (24 < vs.length) || !t_wi vs hd
  else if v = 2 then decide (nx < 0) || decide (12 < nx) || decide (hd < 0) || !decide (hd ≤ nx)
  else if v = 4 ∨ v = 5 then decide (size < nI vs.length) || !t_wi vs size || !t_ri vs
  else if v = 8 then !decide (nI vs.length = size)
  else false
theorem t_vsn : ∀ v, v < 21 → ∀ k : Int32, k ∈ ([0, 3, 7, 8, 9, 10, 11, 12, 13, 14, 15, 16, 17] : List Int32) → px_vs.getD v 0 = k → v ≠ 0 ∧ v ≠ 1 ∧ v ≠ 2 ∧ v ≠ 4 ∧ v ≠ 5 ∧ v ≠ 8 := by decide
theorem t_vsk : ∀ v, v < 21 → (px_vs.getD v 0 = 1 → v = 0) ∧ (px_vs.getD v 0 = 2 → v = 1) ∧ (px_vs.getD v 0 = 18 → v = 2) ∧ (px_vs.getD v 0 = 4 → v = 4) ∧ (px_vs.getD v 0 = 5 → v = 5) ∧ (px_vs.getD v 0 = 6 → v = 8) := by decide
theorem t_vs0 : ∀ v, v < 21 → (v = 0 → px_vs.getD v 0 = 1) ∧ (v = 1 → px_vs.getD v 0 = 2) ∧ (v = 2 → px_vs.getD v 0 = 18) ∧ (v = 4 → px_vs.getD v 0 = 4) ∧ (v = 5 → px_vs.getD v 0 = 5) ∧ (v = 8 → px_vs.getD v 0 = 6) := by decide
theorem t_ord : ∀ v, v < 21 → px_v_ordinal.getD v 0 = nI v := by decide
section CNW
variable {sv : Nat} {sg sf s2 sd sh sx sr se : Int32} {gn : Nat → Int32} {vs : List Int32} {post : Int32 → Nat → Int32 → Int32 → Int32 → Int32 → Int32 → Int32 → Int32 → Int32 → Int32 → (Nat → Int32) → Prop}
theorem c_within {bd : Int32} (hl : vs.length < 160) (hg : ∀ j x, j < 160 → vs[j]? = some x → gn j = x) (h : post (if t_wi vs bd = true then 1 else 0) sv sg sf s2 sd sh sx (nI vs.length) sr se gn) : w173_wp post bd sv sg sf s2 sd sh sx (nI vs.length) sr se gn := by
  have hgd : ∀ j, j < vs.length → gn j = vs.getD j 0 := by
    intro j hj
    refine hg j _ (by omega) ?_
    rw [List.getD_eq_getElem?_getD, List.getElem?_eq_getElem hj]
    rfl
  have main : ∀ (u k : Nat), k + u = vs.length → (∀ j, j < k → ¬ vs.getD j 0 < 0 ∧ vs.getD j 0 < bd) → w173_L2 post (u + 1) bd (nI k) sv sg sf s2 sd sh sx (nI vs.length) sr se gn := by
    intro u
    induction u with
    | zero =>
      intro k hk hall
      have e : t_wi vs bd = true := decide_eq_true (fun j hj => hall j (by omega))
      rw [e] at h
      exact ⟨fun _ => ⟨rfl, h⟩, fun q => absurd (nI_le (by omega) (by omega)) q⟩
    | succ u ih =>
      intro k hk hall
      have no : (¬ (¬ vs.getD k 0 < 0 ∧ vs.getD k 0 < bd)) → w173_L36 post bd (nI k) sv sg sf s2 sd sh sx (nI vs.length) sr se gn := by
        intro q
        have e : t_wi vs bd = false := decide_eq_false (fun hh => q (hh k (by omega)))
        rw [e] at h
        exact ⟨rfl, h⟩
      have hin : vp_in (nI k) 160 := b_in (by omega) (by omega)
      refine ⟨fun q => absurd q (nI_ge (by omega) (by omega)), fun _ => ⟨fun q => absurd q (nI_ge (a := k) (b := 160) (by omega) (by omega)), fun _ => ?_⟩⟩
      rw [nI_clamp (by omega), hgd k (by omega)]
      refine ⟨hin, fun q => no (fun k => k.1 q), fun q => ⟨hin, fun q2 z e => ?_, fun q2 => no (fun k => q2 k.2)⟩⟩
      rw [e, nI_1]
      refine ih (k + 1) (by omega) (fun j hj => ?_)
      by_cases w : j = k
      · rw [w]; exact ⟨q, q2⟩
      · exact hall j (by omega)
  exact ⟨_, main vs.length 0 (by omega) (fun j hj => absurd hj (Nat.not_lt_zero j))⟩
theorem c_rises (hl : vs.length < 160) (hg : ∀ j x, j < 160 → vs[j]? = some x → gn j = x) (h : post (if t_ri vs = true then 1 else 0) sv sg sf s2 sd sh sx (nI vs.length) sr se gn) : w174_wp post sv sg sf s2 sd sh sx (nI vs.length) sr se gn := by
  have hgd : ∀ j, j < vs.length → gn j = vs.getD j 0 := by
    intro j hj
    refine hg j _ (by omega) ?_
    rw [List.getD_eq_getElem?_getD, List.getElem?_eq_getElem hj]
    rfl
  have main : ∀ (u k : Nat), k + 1 + u = max vs.length 1 → (∀ j, j < k → vs.getD j 0 < vs.getD (j + 1) 0) → w174_L2 post (u + 1) (nI (k + 1)) sv sg sf s2 sd sh sx (nI vs.length) sr se gn := by
    intro u
    induction u with
    | zero =>
      intro k hk hall
      have e : t_ri vs = true := decide_eq_true (fun j hj => hall j (by omega))
      rw [e] at h
      exact ⟨fun _ => ⟨rfl, h⟩, fun q => absurd (nI_le (by omega) (by omega)) q⟩
    | succ u ih =>
      intro k hk hall
      refine ⟨fun q => absurd q (nI_ge (by omega) (by omega)), fun _ => ⟨fun q => absurd q (nI_ge (a := k + 1) (b := 160) (by omega) (by omega)), fun _ => ?_⟩⟩
      have e1 : nI (k + 1) - 1 = nI k := by rw [← nI_1]; exact Int32.add_sub_cancel _ _
      rw [e1, nI_clamp (by omega), nI_clamp (by omega), hgd (k + 1) (by omega), hgd k (by omega)]
      refine ⟨b_in (by omega) (by omega), b_in (by omega) (by omega), fun q z e => ?_, fun q => ⟨rfl, ?_⟩⟩
      · rw [e, nI_1]
        refine ih (k + 1) (by omega) (fun j hj => ?_)
        by_cases w : j = k
        · rw [w]; exact q
        · exact hall j (by omega)
      · have e : t_ri vs = false := decide_eq_false (fun hh => q (hh k (by omega)))
        rw [e] at h
        exact h
  exact ⟨_, main (max vs.length 1 - 1) 0 (by omega) (fun j hj => absurd hj (Nat.not_lt_zero j))⟩
/-- the set of some numbers -/
def t_sts (vs : List Int32) : Nat → Nat
  | 0 => 0
  | k + 1 => t_sts vs k ||| 2 ^ (vs.getD k 0).toNatClampNeg
theorem c_asSet {size : Nat} (hsz : size ≤ 12) (hl : vs.length ≤ size) (hg : ∀ j x, j < 160 → vs[j]? = some x → gn j = x) (hw : t_wi vs (nI size) = true) (h : post (nI (t_sts vs vs.length)) sv sg sf s2 sd sh sx (nI vs.length) sr se gn) : w257_wp post (nI size) sv sg sf s2 sd sh sx (nI vs.length) sr se gn := by
  have hw := of_decide_eq_true hw
  have hgd : ∀ j, j < vs.length → gn j = vs.getD j 0 := by
    intro j hj
    refine hg j _ (by omega) ?_
    rw [List.getD_eq_getElem?_getD, List.getElem?_eq_getElem hj]
    rfl
  have main : ∀ (u k : Nat), k + u = vs.length → w257_L4 post (u + 1) (nI size) (nI (t_sts vs k)) (nI k) sv sg sf s2 sd sh sx (nI vs.length) sr se gn := by
    intro u
    induction u with
    | zero =>
      intro k hk
      refine ⟨fun _ => ?_, fun q => absurd (nI_le (by omega) (by omega)) q⟩
      rw [show k = vs.length by omega]
      exact h
    | succ u ih =>
      intro k hk
      refine ⟨fun q => absurd q (nI_ge (by omega) (by omega)), fun _ => ⟨fun q => absurd q (nI_ge (by omega) (by omega)), fun _ => ⟨b_in (by omega) (by omega), fun z1 e1 z2 e2 => ?_⟩⟩⟩
      rw [nI_clamp (by omega), hgd k (by omega)] at e1
      obtain ⟨w1, w2⟩ := hw k (by omega)
      obtain ⟨x, hx, ex⟩ := nI_of w1
      have hx12 : x < size := by
        rw [ex] at w2
        exact (nI_ltI hx (by omega)).1 w2
      have e3 : t_sts vs (k + 1) = t_sts vs k ||| 2 ^ x := by
        show t_sts vs k ||| 2 ^ (vs.getD k 0).toNatClampNeg = _
        rw [ex, nI_clamp hx]
      rw [ex, b_sh (by omega), b_or, ← e3] at e1
      rw [e1, e2, nI_1]
      exact ih (k + 1) (by omega)
  exact ⟨_, main vs.length 0 (by omega)⟩
theorem c_wrong {size : Nat} {mn : Int32} (hsz : size ≤ 12) (hv : sv < 21) (hmn : (sv = 1 ∨ sv = 4 ∨ sv = 5 ∨ sv = 8) → mn = nI vs.length ∧ (∀ j x, j < 160 → vs[j]? = some x → gn j = x)) (hlen : vs.length < 2 ^ 31) (h : post (if t_bad sv sd sh sx vs sr se (nI size) = true then 1 else 0) sv sg sf s2 sd sh sx mn sr se gn) : w171_wp post (nI size) sv sg sf s2 sd sh sx mn sr se gn := by
  have hcl : (nI sv).toNatClampNeg = sv := nI_clamp (by omega)
  unfold w171_wp w172_wp
  rw [t_ord sv hv]
  simp only [hcl]
  have no : (sv ≠ 0 ∧ sv ≠ 1 ∧ sv ≠ 2 ∧ sv ≠ 4 ∧ sv ≠ 5 ∧ sv ≠ 8) → narrow .boolean (.int 0) = .int 0 ∧ post 0 sv sg sf s2 sd sh sx mn sr se gn := by
    intro ⟨a0, a1, a2, a4, a5, a8⟩
    have e : t_bad sv sd sh sx vs sr se (nI size) = false := by
      unfold t_bad
      rw [if_neg a0, if_neg a1, if_neg a2, if_neg (fun q => q.elim a4 a5), if_neg a8]
    rw [e] at h
    exact ⟨rfl, h⟩
  have T : t_bad sv sd sh sx vs sr se (nI size) = true → post 1 sv sg sf s2 sd sh sx mn sr se gn := fun e => by rw [e] at h; exact h
  have F : t_bad sv sd sh sx vs sr se (nI size) = false → post 0 sv sg sf s2 sd sh sx mn sr se gn := fun e => by rw [e] at h; exact h
  have cd : ∀ k : Nat, (k = 4 ∨ k = 5) → sv = k → (nI size < mn → w171_L248 post (nI size) sv sg sf s2 sd sh sx mn sr se gn) ∧ (¬ nI size < mn → w173_wp (fun r235 v13 v14 v15 v16 v17 v18 v19 v20 v21 v22 v23 => (r235 = 0 → w171_L248 post (nI size) v13 v14 v15 v16 v17 v18 v19 v20 v21 v22 v23) ∧ (¬ r235 = 0 → w174_wp (fun r242 v24 v25 v26 v27 v28 v29 v30 v31 v32 v33 v34 => (¬ r242 = 0 → w171_L253 post (nI size) 0 v24 v25 v26 v27 v28 v29 v30 v31 v32 v33 v34) ∧ (r242 = 0 → w171_L248 post (nI size) v24 v25 v26 v27 v28 v29 v30 v31 v32 v33 v34)) v13 v14 v15 v16 v17 v18 v19 v20 v21 v22 v23)) (nI size) sv sg sf s2 sd sh sx mn sr se gn) := by
    intro k hk es
    obtain ⟨em, hg⟩ := hmn (by omega)
    have e : t_bad sv sd sh sx vs sr se (nI size) = (decide (nI size < nI vs.length) || !t_wi vs (nI size) || !t_ri vs) := by
      unfold t_bad
      rw [if_neg (by omega), if_neg (by omega), if_neg (by omega), if_pos (by omega)]
    rw [e] at T F
    subst em
    refine ⟨fun q => ⟨rfl, T (by rw [decide_eq_true q]; rfl)⟩, fun q => ?_⟩
    have hl : vs.length ≤ size := by
      by_cases w : vs.length ≤ size
      · exact w
      · exact absurd (nI_lt (by omega) hlen) q
    refine c_within (by omega) hg ⟨fun q2 => ⟨rfl, T ?_⟩, fun q2 => c_rises (by omega) hg ⟨fun q3 => ⟨rfl, F ?_⟩, fun q3 => ⟨rfl, T ?_⟩⟩⟩
    · have : t_wi vs (nI size) = false := by
        cases w : t_wi vs (nI size)
        · rfl
        · rw [w] at q2; exact t_10 q2
      rw [this, Bool.or_comm]; simp
    · have w1 : t_wi vs (nI size) = true := by
        cases w : t_wi vs (nI size)
        · rw [w] at q2; exact absurd rfl q2
        · rfl
      have w2 : t_ri vs = true := by
        cases w : t_ri vs
        · rw [w] at q3; exact absurd rfl q3
        · rfl
      rw [w1, w2, decide_eq_false q]; rfl
    · have : t_ri vs = false := by
        cases w : t_ri vs
        · rfl
        · rw [w] at q3; exact t_10 q3
      rw [this]; simp
  refine ⟨hv, hv, b_in hv (by omega), fun q => ?_, fun q => ?_, fun q => no (t_vsn sv hv _ (by decide) q), fun q => cd 4 (Or.inl rfl) ((t_vsk sv hv).2.2.2.1 q), fun q => cd 5 (Or.inr rfl) ((t_vsk sv hv).2.2.2.2.1 q), fun q => ?_, fun q => no (t_vsn sv hv _ (by decide) q), fun q => no (t_vsn sv hv _ (by decide) q), fun q => no (t_vsn sv hv _ (by decide) q), fun q => no (t_vsn sv hv _ (by decide) q), fun q => no (t_vsn sv hv _ (by decide) q), fun q => no (t_vsn sv hv _ (by decide) q), fun q => no (t_vsn sv hv _ (by decide) q), fun q => no (t_vsn sv hv _ (by decide) q), fun q => no (t_vsn sv hv _ (by decide) q), fun q => no (t_vsn sv hv _ (by decide) q), fun q => no (t_vsn sv hv _ (by decide) q), fun q => ?_, ?_⟩
  · have e0 := (t_vsk sv hv).1 q
    have e : t_bad sv sd sh sx vs sr se (nI size) = (decide (sd = -1) || decide (sh < 0) || decide (12 < sh) || decide (12 < sr) || decide (se = 0)) := by
      unfold t_bad
      rw [if_pos e0]
    rw [e] at T F
    refine ⟨fun q1 => ⟨rfl, T (by simp [q1])⟩, fun q1 => ⟨fun q2 => ⟨rfl, T (by simp [q2])⟩, fun q2 => ⟨fun q3 => ⟨rfl, T (by simp [q3])⟩, fun q3 => ⟨fun q4 => ⟨rfl, T (by simp [q4])⟩, fun q4 => ⟨fun q5 => ⟨rfl, F ?_⟩, fun q5 => ⟨rfl, T (by simp [q5])⟩⟩⟩⟩⟩⟩
    rw [decide_eq_false q1, decide_eq_false q2, decide_eq_false q3, decide_eq_false q4, decide_eq_false q5]; rfl
  · have e0 := (t_vsk sv hv).2.1 q
    obtain ⟨em, hg⟩ := hmn (by omega)
    have e : t_bad sv sd sh sx vs sr se (nI size) = (decide (sh < 1) || decide (13 < sh) || decide (24 < vs.length) || !t_wi vs sh) := by
      unfold t_bad
      rw [if_neg (by omega), if_pos e0]
    rw [e] at T F
    subst em
    refine ⟨fun q1 => ⟨rfl, T (by simp [q1])⟩, fun q1 => ⟨fun q2 => ⟨rfl, T (by simp [q2])⟩, fun q2 => ⟨fun q3 => ⟨rfl, T ?_⟩, fun q3 => ?_⟩⟩⟩
    · have : 24 < vs.length := (nI_ltI (a := 24) (b := vs.length) (by omega) hlen).1 q3
      simp [this]
    · have hl : ¬ 24 < vs.length := fun k => q3 (nI_lt (a := 24) (b := vs.length) k hlen)
      refine c_within (by omega) hg ⟨fun q4 => ⟨rfl, F ?_⟩, fun q4 => ⟨rfl, T ?_⟩⟩
      · have w1 : t_wi vs sh = true := by
          cases w : t_wi vs sh
          · rw [w] at q4; exact absurd rfl q4
          · rfl
        rw [w1, decide_eq_false q1, decide_eq_false q2, decide_eq_false hl]; rfl
      · have w1 : t_wi vs sh = false := by
          cases w : t_wi vs sh
          · rfl
          · rw [w] at q4; exact t_10 q4
        rw [w1]; simp
  · have e0 := (t_vsk sv hv).2.2.2.2.2 q
    obtain ⟨em, hg⟩ := hmn (by omega)
    have e : t_bad sv sd sh sx vs sr se (nI size) = !decide (nI vs.length = nI size) := by
      unfold t_bad
      rw [if_neg (by omega), if_neg (by omega), if_neg (by omega), if_neg (by omega), if_pos e0]
    rw [e] at T F
    subst em
    exact ⟨fun q1 => ⟨rfl, F (by rw [decide_eq_true q1]; rfl)⟩, fun q1 => ⟨rfl, T (by rw [decide_eq_false q1]; rfl)⟩⟩
  · have e0 := (t_vsk sv hv).2.2.1 q
    have e : t_bad sv sd sh sx vs sr se (nI size) = (decide (sx < 0) || decide (12 < sx) || decide (sh < 0) || !decide (sh ≤ sx)) := by
      unfold t_bad
      rw [if_neg (by omega), if_neg (by omega), if_pos e0]
    rw [e] at T F
    refine ⟨fun q1 => ⟨rfl, T (by simp [q1])⟩, fun q1 => ⟨fun q2 => ⟨rfl, T (by simp [q2])⟩, fun q2 => ⟨fun q3 => ⟨rfl, T (by simp [q3])⟩, fun q3 => ⟨fun q4 => ⟨rfl, F ?_⟩, fun q4 => ⟨rfl, T ?_⟩⟩⟩⟩⟩
    · rw [decide_eq_false q1, decide_eq_false q2, decide_eq_false q3, decide_eq_true q4]; rfl
    · rw [decide_eq_false q4]; simp
  · exact fun q1 q2 _ q4 q5 q6 _ _ _ _ _ _ _ _ _ _ _ q18 => no ⟨fun e => q1 ((t_vs0 sv hv).1 e), fun e => q2 ((t_vs0 sv hv).2.1 e), fun e => q18 ((t_vs0 sv hv).2.2.1 e), fun e => q4 ((t_vs0 sv hv).2.2.2.1 e), fun e => q5 ((t_vs0 sv hv).2.2.2.2.1 e), fun e => q6 ((t_vs0 sv hv).2.2.2.2.2 e)⟩
end CNW
