/-! the law's environment at its start -/
theorem px_isr {t : Term} {a : Array Value} {s : State} (h : (Cond.isRef t).before a s = true) : ∃ q : Option Nat, t.eval a s none [] s = some (va_rf q) := by
  cases hv : t.eval a s none [] s with
  | none => simp [Cond.before, Cond.holds, Cond.value, hv] at h
  | some v =>
    cases v with
    | ref q => exact ⟨some q, rfl⟩
    | null => exact ⟨none, rfl⟩
    | _ => simp [Cond.before, Cond.holds, Cond.value, hv] at h
theorem px_OFu {o n d : String} {v v' : Value} {t : Nat} {A : Nat → Prop} {U : State} {H : Heap} (h : va_OF o n d v t A U H) (h' : va_OF o n d v' t A U H) : v = v' := by
  obtain ⟨cf, k, i, f, cell, h1, h2, h3, h4, h5, h6⟩ := h
  obtain ⟨cf', k', i', f', cell', g1, g2, g3, g4, g5, g6⟩ := h'
  rw [h1] at g1; cases g1
  rw [h3] at g3; cases g3
  rw [h5] at g5; cases g5
  rfl
theorem px_Tu {ty : FieldType} {t N M : Nat} {f g : Nat → Value} {A : Nat → Prop} {U : State} {H : Heap} (hN : N < 2 ^ 31) (hM : M < 2 ^ 31) (h : va_T ty t N f A U H) (h' : va_T ty t M g A U H) : N = M ∧ ∀ j, j < N → f j = g j := by
  obtain ⟨cell, h1, h2, h3, h4, h5, h6, h7⟩ := h
  obtain ⟨cell', g1, g2, g3, g4, g5, g6, g7⟩ := h'
  rw [h1] at g1; cases g1
  have e : N = M := by
    rw [h5] at g5
    exact (nI_eq hN hM).1 g5
  refine ⟨e, fun j hj => ?_⟩
  have := h6 j hj
  rw [g6 j (by omega)] at this
  exact (Option.some.inj this).symm
/-- the strings -/
theorem px_S0 {a : Array Value} {s : State} (hf : ∀ w ∈ px_fl, w.before a s = true) : ∃ adK adV : Nat → Nat, vk_S px_qn px_ql px_qb adK adV (fun q : Nat => s.heap.size ≤ q) s s.heap ∧ ∀ i : Nat, i < 32 → (px_tm i).eval a s none [] s = some (.ref (adK i)) := by
  have hA : ∀ x : Nat, x < s.heap.size → ¬ (fun q : Nat => s.heap.size ≤ q) x := fun x h => Nat.not_le.mpr h
  have h1 : ∀ i : Nat, ∃ q : Nat × Nat, i < 32 → (va_O "java/lang/String" q.1 (fun q : Nat => s.heap.size ≤ q) s s.heap ∧ va_OF "java/lang/String" "coder" "B" (.int 0) q.1 (fun q : Nat => s.heap.size ≤ q) s s.heap ∧ va_OF "java/lang/String" "value" "[B" (.ref q.2) q.1 (fun q : Nat => s.heap.size ≤ q) s s.heap ∧ va_T .byte q.2 (px_ql.getD i 0) (fun j => .int ((px_qb.getD i []).getD j 0)) (fun q : Nat => s.heap.size ≤ q) s s.heap) ∧ (px_tm i).eval a s none [] s = some (.ref q.1) := by
    intro i
    by_cases hi : i < 32
    · obtain ⟨k, v, h2, h3⟩ := vk_Sof (N := 1) (tm := fun _ => px_tm i) (len := [px_ql.getD i 0]) (byt := [px_qb.getD i []]) (args := a) (s := s) (fun x hx => by rw [show x = 0 by omega]; exact px_f6 i hi) (fun _ _ => hf _ (px_f1 i hi)) (fun _ _ => hf _ (px_f2 i hi)) (fun _ _ => hf _ (px_f3 i hi)) (fun x hx => by rw [show x = 0 by omega]; exact hf _ (px_f4 i hi)) (fun x hx j hj => by
        have ex : x = 0 := by omega
        subst ex
        exact hf _ (px_f5 i hi j hj)) (fun x y hx hy e => absurd (show x = y by omega) e) hA
      exact ⟨(k 0, v 0), fun _ => ⟨h2.1 0 (by decide), h3 0 (by decide)⟩⟩
    · exact ⟨(0, 0), fun h => absurd h hi⟩
  obtain ⟨ad, had⟩ := Classical.skolem.mp h1
  refine ⟨fun i => (ad i).1, fun i => (ad i).2, ⟨fun i hi => (had i hi).1, fun i j hi hj e => ?_⟩, fun i hi => (had i hi).2⟩
  refine Classical.byContradiction (fun hne => ?_)
  have e' : (ad i).1 = (ad j).1 := e
  have v1 := (had i hi).1.2.2.1
  have v2 := (had j hj).1.2.2.1
  rw [← e'] at v2
  have v3 := px_OFu v1 v2
  have v4 : (ad i).2 = (ad j).2 := Value.ref.inj v3
  have t1 := (had i hi).1.2.2.2
  have t2 := (had j hj).1.2.2.2
  rw [← v4] at t2
  obtain ⟨u1, u2⟩ := px_Tu (px_f6 i hi) (px_f6 j hj) t1 t2
  rcases px_f7 i hi j hj hne with w | ⟨x, hx, w⟩
  · exact w u1
  · have := u2 x hx
    cases hh : (px_qb.getD i []).getD x 0
    exact w (by injection this)
theorem px_E0 {a : Array Value} {s : State} (ht : ∀ w ∈ lw_tbl, w.before a s = true) (hgv : (Jvm.Cond.and given_1 narrow_1).before a s = true) : ∃ (adK adV : Nat → Nat) (bo : Option Nat) (adB : Nat → Nat) (tA tS : Nat), px_E adK adV bo adB tA tS (fun q : Nat => s.heap.size ≤ q) s s.heap ∧ (Term.static "MatroidDesk$Verb" "SHOW" "LMatroidDesk$Verb;").eval a s none [] s = some (.ref (adB 20)) := by
  have hf : ∀ w ∈ px_fl, w.before a s = true := flat_of_before _ hgv
  have hA : ∀ x : Nat, x < s.heap.size → ¬ (fun q : Nat => s.heap.size ≤ q) x := fun x h => Nat.not_le.mpr h
  obtain ⟨adK, adV, hS, hev⟩ := px_S0 hf
  have hini : (Cond.initialized "MatroidDesk$Verb").before a s = true := ht _ px_g19_0
  obtain ⟨adB, hB, hBe⟩ := va_Enof2 (E := "MatroidDesk$Verb") (d := "LMatroidDesk$Verb;") (nm := px_vn) (F := px_vf) (A := fun q : Nat => s.heap.size ≤ q) (fun i hi => ht _ (px_f10 i hi)) hini (fun i hi => hf _ (px_f11 i hi)) (fun q hq i hi => hf _ (px_f12 q hq i hi)) (fun i j hi hj hne => (px_f13 i hi j hj hne).imp (hf _) (hf _)) hA
  obtain ⟨tA, hA1, hA2⟩ := va_Tof (tm := .static "MatroidDesk$Verb" "ALL" "[LMatroidDesk$Verb;") (ty := .object "MatroidDesk$Verb") (N := 21) (f := fun j => .ref (adB j)) (A := fun q : Nat => s.heap.size ≤ q) (by decide) (hf _ px_g18_0) (va_eqt (hf _ px_g18_1)) (fun j hj => va_eqv (hf _ (px_f16 j hj)) (hBe j hj)) hA
  obtain ⟨tS, hS1, hS2⟩ := va_Tof (tm := .static "MatroidDesk$1" "$SwitchMap$MatroidDesk$Verb" "[I") (ty := .int) (N := 21) (f := fun j => .int (px_vs.getD j 0)) (A := fun q : Nat => s.heap.size ≤ q) (by decide) (hf _ px_g18_2) (va_eqt (hf _ px_g18_3)) (fun j hj => va_eqt (hf _ (px_f17 j hj))) hA
  obtain ⟨bq, hbq⟩ := px_isr (hf _ px_g18_5)
  refine ⟨adK, adV, bq, adB, tA, tS, ⟨hS, fun q hq => ?_, va_Zof (ht _ px_g19_1) (ht _ px_g19_2) (va_eqt (hf _ px_g18_4)) hA, va_Zof (ht _ px_g19_3) (ht _ px_g19_4) hbq hA, hB, va_Efof hBe (fun i hi => hf _ (px_f14 i hi)) (fun i hi => hev _ (px_f15 i hi)) hA, va_Zof (ht _ px_g19_5) hini hA1 hA, hA2, va_Zof (ht _ px_g19_6) (ht _ px_g19_7) hS1 hA, hS2⟩, hBe 20 (by decide)⟩
  obtain ⟨h1, h2⟩ := px_f9 q hq
  refine vk_R.of (ht _ (px_f8 q hq)) ?_
  rcases h2 with h2 | h2
  · have := hev _ h1
    unfold px_tm at this
    rw [← h2] at this
    exact this
  · exact va_eqv (hf _ (px_c9 _ (List.mem_map.mpr ⟨_, h2, rfl⟩))) (hev _ h1)
