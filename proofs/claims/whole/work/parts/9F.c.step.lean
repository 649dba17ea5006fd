/-! PURE: a step of a run, as both sides make it -/
/-- letters, lengths, stamps, orders' length, minors' length, witness's length, text -/
abbrev x_GS := (Nat → Option x_LR) × (Nat → Nat → Nat) × Nat × Nat × Nat × Nat × List Nat
def x_lt (lt : Nat → Option x_LR) (x : Int32) : Option x_LR := if x < 0 then none else if x < 26 then lt x.toNatClampNeg else none
def x_ob (v : Nat) (A B : Option x_LR) (bad : Nat → Bool) : Int32 :=
  if (2 < v ∧ A = none) ∨ ((v = 6 ∨ v = 16 ∨ v = 19) ∧ B = none) then 1
  else match A, B with
    | none, _ => if bad 0 = true then 2 else 0
    | some A, none => if bad A.2.1 = true then 2 else if (v = 17 ∨ v = 18) ∧ ¬ A.1 = 0 then 5 else 0
    | some A, some B => if bad A.2.1 = true then 2 else if v = 6 ∧ 12 < A.2.1 + B.2.1 then 3 else if v = 6 ∧ ¬ A.1 = B.1 then 4 else if v = 16 ∧ ¬ A.2.1 = B.2.1 then 6 else 0
noncomputable def x_made (v : Nat) (fd hd nx : Int32) (ro : Nat) (vs : List Int32) (A B : x_LR) : x_LR :=
  if v = 0 then x_raw fd.toNatClampNeg hd.toNatClampNeg ro (x_mtR hd.toNatClampNeg vs)
  else if v = 1 then x_raw 0 (vs.length / 2) hd.toNatClampNeg (x_grA (vs.length / 2) vs)
  else if v = 2 then x_raw 0 nx.toNatClampNeg hd.toNatClampNeg (x_biA nx.toNatClampNeg)
  else x_mk1 v vs A B
def x_D0 : x_LR := (0, 0, 0, fun _ => 0, fun _ => 0)
/-- what the statement at i makes; its first and second letter's matroids -/
noncomputable def x_sA (b : Nat → Int32) (L i : Nat) (lt : Nat → Option x_LR) : x_LR := (x_lt lt (t_pfi b L i)).getD x_D0
noncomputable def x_sB (b : Nat → Int32) (L i : Nat) (lt : Nat → Option x_LR) : x_LR := (x_lt lt (t_pse b L i)).getD x_D0
noncomputable def x_sC (b : Nat → Int32) (L i : Nat) (lt : Nat → Option x_LR) : x_LR := x_made (t_pv b L i) (t_pfd b L i) (t_phd b L i) (t_pnx b L i) (t_pro b L i).1 (t_pvs b L i) (x_sA b L i lt) (x_sB b L i lt)
/-- what stands in the way -/
def x_sO (b : Nat → Int32) (L i : Nat) (lt : Nat → Option x_LR) : Int32 := x_ob (t_pv b L i) (x_lt lt (t_pfi b L i)) (x_lt lt (t_pse b L i)) (t_pbad b L i)
noncomputable def x_sV (b : Nat → Int32) (L i : Nat) (lt : Nat → Option x_LR) : List Nat := x_txt (t_pv b L i) (x_sA b L i lt) (x_sB b L i lt)
def x_f0 (sk : Nat → Nat → Nat) : Nat → Nat := if sk 26 6 = 0 then x_g0 else sk 26
def x_k1 (v f n : Nat) (sk : Nat → Nat → Nat) : Nat → Nat → Nat := if v = 4 ∨ v = 5 then va_up sk f (x_g7 n (sk f)) else sk
/-- the step: the new state, and the reason why it goes no further, or 0 -/
noncomputable def x_stp (b : Nat → Int32) (L i : Nat) (G : x_GS) : x_GS × Int32 :=
  if ¬ x_sO b L i G.1 = 0 then (G, x_sO b L i G.1)
  else if t_pv b L i ≤ 7 then
    ((va_up G.1 (t_ptg b L i) (some (x_sC b L i G.1)), va_up (va_up (x_k1 (t_pv b L i) (t_pfi b L i).toNatClampNeg (x_sA b L i G.1).2.1 G.2.1) 26 (x_k1 (t_pv b L i) (t_pfi b L i).toNatClampNeg (x_sA b L i G.1).2.1 G.2.1 (t_ptg b L i))) (t_ptg b L i) (x_g6 (x_sC b L i G.1).2.1 (x_f0 G.2.1)), G.2.2.1 + 1, o_ln G.2.2.2.1 (x_sC b L i G.1).2.1, (if t_pv b L i ≤ 2 then max G.2.2.2.2.1 (2 ^ (x_sC b L i G.1).2.1) else G.2.2.2.2.1), G.2.2.2.2.2.1, G.2.2.2.2.2.2), 0)
  else
    ((x_tkA (t_pv b L i) (x_sA b L i G.1) (t_pvs b L i) (t_pfi b L i).toNatClampNeg G.1, x_tkS (t_pv b L i) (x_sA b L i G.1) (x_sB b L i G.1) (t_pfi b L i).toNatClampNeg (t_pse b L i).toNatClampNeg G.2.1, G.2.2.1, G.2.2.2.1, G.2.2.2.2.1, x_tkW (t_pv b L i) (x_sA b L i G.1) (x_sB b L i G.1) G.2.2.2.2.2.1, if (G.2.2.2.2.2.2 ++ x_sV b L i G.1).length ≤ 65536 then G.2.2.2.2.2.2 ++ x_sV b L i G.1 else G.2.2.2.2.2.2), if (G.2.2.2.2.2.2 ++ x_sV b L i G.1).length ≤ 65536 then 0 else 7)
/-- what it costs the class: cells, places -/
noncomputable def x_stC (b : Nat → Int32) (L i : Nat) (G : x_GS) : Nat :=
  if ¬ x_sO b L i G.1 = 0 then 0
  else if t_pv b L i ≤ 7 then (if G.2.1 26 6 = 0 then 13 else 0) + x_mcc (decide (t_pv b L i ≤ 2)) (decide (t_pv b L i = 4 ∨ t_pv b L i = 5)) G.2.2.2.1 G.2.2.2.2.1 (x_f0 G.2.1) (G.2.1 (t_pfi b L i).toNatClampNeg) (x_sA b L i G.1).2.1 (x_sC b L i G.1).2.1
  else x_tkC (t_pv b L i) (x_sA b L i G.1) (x_sB b L i G.1) (t_pfi b L i).toNatClampNeg (t_pse b L i).toNatClampNeg G.2.1 G.2.2.2.2.2.1
noncomputable def x_stE (b : Nat → Int32) (L i : Nat) (G : x_GS) : Nat :=
  if ¬ x_sO b L i G.1 = 0 then 0
  else if t_pv b L i ≤ 7 then (if G.2.1 26 6 = 0 then 155 else 0) + x_mcs (decide (t_pv b L i ≤ 2)) (decide (t_pv b L i = 4 ∨ t_pv b L i = 5)) G.2.2.2.1 G.2.2.2.2.1 (x_f0 G.2.1) (G.2.1 (t_pfi b L i).toNatClampNeg) (x_sA b L i G.1).2.1 (x_sC b L i G.1).2.1
  else x_tkE (t_pv b L i) (x_sA b L i G.1) (x_sB b L i G.1) (t_pfi b L i).toNatClampNeg (t_pse b L i).toNatClampNeg G.2.1 G.2.2.2.2.2.1
/-- how many bytes are kept of what it prints -/
noncomputable def x_stM (b : Nat → Int32) (L i : Nat) (G : x_GS) : Nat := if ¬ x_sO b L i G.1 = 0 then 0 else if t_pv b L i ≤ 7 then 0 else min 65536 (G.2.2.2.2.2.2.length + (x_sV b L i G.1).length)
/-- a run: the state, statements done, the reason -/
noncomputable def x_run (b : Nat → Int32) (L : Nat) : Nat → Nat → Nat → x_GS → x_GS × Nat × Int32
  | 0, _, _, G => (G, 0, 0)
  | u + 1, n, i, G => if n = 400 ∨ t_k b L i = 0 then (G, 0, 0) else if ¬ (x_stp b L i G).2 = 0 then ((x_stp b L i G).1, 0, (x_stp b L i G).2) else ((x_run b L u (n + 1) (t_st b L i).2 (x_stp b L i G).1).1, (x_run b L u (n + 1) (t_st b L i).2 (x_stp b L i G).1).2.1 + 1, (x_run b L u (n + 1) (t_st b L i).2 (x_stp b L i G).1).2.2)
noncomputable def x_ruC (b : Nat → Int32) (L : Nat) : Nat → Nat → Nat → x_GS → Nat
  | 0, _, _, _ => 0
  | u + 1, n, i, G => if n = 400 ∨ t_k b L i = 0 then 0 else x_stC b L i G + (if ¬ (x_stp b L i G).2 = 0 then 0 else x_ruC b L u (n + 1) (t_st b L i).2 (x_stp b L i G).1)
noncomputable def x_ruE (b : Nat → Int32) (L : Nat) : Nat → Nat → Nat → x_GS → Nat
  | 0, _, _, _ => 0
  | u + 1, n, i, G => if n = 400 ∨ t_k b L i = 0 then 0 else x_stE b L i G + (if ¬ (x_stp b L i G).2 = 0 then 0 else x_ruE b L u (n + 1) (t_st b L i).2 (x_stp b L i G).1)
noncomputable def x_ruM (b : Nat → Int32) (L : Nat) : Nat → Nat → Nat → x_GS → Nat
  | 0, _, _, _ => 0
  | u + 1, n, i, G => if n = 400 ∨ t_k b L i = 0 then 0 else max (x_stM b L i G) (if ¬ (x_stp b L i G).2 = 0 then 0 else x_ruM b L u (n + 1) (t_st b L i).2 (x_stp b L i G).1)
/-- the lengths of lists are 16 times a power of 4 -/
def x_s4 (sk : Nat → Nat → Nat) : Prop := ∀ x, x < 27 → (∀ k, sk x k = 0) ∨ ∀ k, k < 4 → ∃ j, sk x (20 + k) * 4 ^ j = 4096
section XST
variable {lm : Nat → Option Nat} {spare : Option Nat} {cm np ns : Nat} {mm : Nat → px_MR} {st : Nat} {lt : Nat → Option x_LR} {sk : Nat → Nat → Nat} {pp : Nat → px_PR} {sp sn sm : Nat → Nat} {sK : Nat → Nat → Nat → Int} {q : Nat}
theorem c_LTo {x : Int32} (hL : c_LT lm spare cm mm st lt sk np ns pp sp sn sm sK q) : (t_la lm x = none ∧ x_lt lt x = none) ∨ ∃ f a A, f < 26 ∧ x = nI f ∧ lm f = some a ∧ lt f = some A ∧ t_la lm x = some a ∧ x_lt lt x = some A ∧ a < cm ∧ c_GL np ns pp sp sn sm sK (mm a) A := by
  unfold t_la x_lt
  by_cases q1 : x < 0
  · rw [if_pos q1, if_pos q1]; exact Or.inl ⟨rfl, rfl⟩
  · rw [if_neg q1, if_neg q1]
    by_cases q2 : x < 26
    · rw [if_pos q2, if_pos q2]
      obtain ⟨c, hc, e⟩ := nI_of q1
      rw [e] at q2
      have hc26 : c < 26 := (nI_ltI (b := 26) hc (by decide)).1 q2
      rw [e, nI_clamp hc]
      rcases hL.2.1 c hc26 with z | ⟨a, A, e1, e2, e3, e4, e5, e6⟩
      · exact Or.inl ⟨z.1, z.2.1⟩
      · exact Or.inr ⟨c, a, A, hc26, rfl, e1, e2, e1, e2, e3, e4⟩
    · rw [if_neg q2, if_neg q2]; exact Or.inl ⟨rfl, rfl⟩
theorem c_obG {v : Nat} {fi se : Int32} {bad : Nat → Bool} (hL : c_LT lm spare cm mm st lt sk np ns pp sp sn sm sK q) : t_ob v (t_la lm fi) (t_la lm se) (fun a => ((mm a).2.1 13).toNatClampNeg) (fun a => (mm a).2.1 12) bad = x_ob v (x_lt lt fi) (x_lt lt se) bad := by
  have key : ∀ a A, c_GL np ns pp sp sn sm sK (mm a) A → ((mm a).2.1 13).toNatClampNeg = A.2.1 ∧ (mm a).2.1 12 = nI A.1 ∧ A.1 < 252 := fun a A h => by
    have hk : c_kn (mm a) A.2.1 A.2.2.1 (x_bg A.1 A.2.2.2.1) := h.2.2.2.2.1
    have hn := (c_knn hk).1
    refine ⟨by rw [hk.1.1, nI_clamp (by omega)], h.1, (x_pmb h.2.1).2⟩
  unfold t_ob x_ob
  rcases c_LTo (x := fi) hL with ⟨f1, f2⟩ | ⟨f, a, A, f1, f2, f3, f4, f5, f6, f7, f8⟩
  · rw [f1, f2]
    rcases c_LTo (x := se) hL with ⟨g1, g2⟩ | ⟨g, c, B, g1, g2, g3, g4, g5, g6, g7, g8⟩
    · rw [g1, g2]
      simp
    · rw [g5, g6]
      simp
  · rw [f5, f6]
    obtain ⟨k1, k2, k3⟩ := key a A f8
    rcases c_LTo (x := se) hL with ⟨g1, g2⟩ | ⟨g, c, B, g1, g2, g3, g4, g5, g6, g7, g8⟩
    · rw [g1, g2]
      have e0 : (nI A.1 = 0) ↔ A.1 = 0 := ⟨fun w => (nI_eq (b := 0) (by omega) (by decide)).1 w, fun w => by rw [w]; rfl⟩
      simp only [k1, k2, e0]
      simp
    · rw [g5, g6]
      obtain ⟨j1, j2, j3⟩ := key c B g8
      have e0 : (nI A.1 = nI B.1) ↔ A.1 = B.1 := nI_eq (by omega) (by omega)
      unfold t_o2
      simp only [k1, k2, j1, j2, e0]
      simp
end XST
