/-! both sides: the start -/
theorem z_num1 {ks P : Nat} (h : ks ≤ 500000) : ks ≤ 500000 + 2 * (P + 256 + 512) + 306 * 0 + 6 * 0 := Nat.le_trans h (Nat.le_trans (Nat.le_trans (Nat.le_add_right 500000 _) (Nat.le_add_right _ _)) (Nat.le_add_right _ _))
theorem z_num2 {kc P : Nat} (h : kc ≤ 1000) : 4 * kc ≤ 4000 + P + 256 + 512 + 120 * 0 + 4 * 0 := by omega
theorem z_start {kc ks : Nat} (hkc : kc ≤ 1000) (hks : ks ≤ 500000) {mm : Nat → px_MR} {sa : Nat → Nat} {pp : Nat → px_PR} {ss : Nat → px_SR} {go gz : Nat → Int32} (hT : r_T go gz) : z_I 0 kc ks 0 (-1) 0 0 none (fun _ => none) 512 (fun _ => 0) 64 0 (upd (fun _ => 0) (Int32.toNatClampNeg 1) 0) (upd (fun _ => 0) (Int32.toNatClampNeg 1) 1) 32 32 32 0 0 0 none (fun _ => 0) (fun _ => 0) (fun _ => 0) 16 16 16 none none (-1) (-1) 0 0 0 (fun _ => 0) 20 256 0 0 (fun _ => 0) mm 0 0 0 sa pp ss (fun k => if k = 42 then (-1) else 0) (fun _ => 0) (fun _ => 0) (fun _ => 0) (fun _ => 0) (fun _ => 0) (fun _ => 0) (fun _ => 0) (fun _ => 0) (fun _ => 0) go gz (fun _ => 0) (fun _ => 0) (fun _ => (0, 0, fun _ => 0)) := by
  have e1 : Int32.toNatClampNeg 1 = 1 := by decide +kernel
  have hOk : o_Ok 64 0 (upd (fun _ => 0) (Int32.toNatClampNeg 1) 0) (upd (fun _ => 0) (Int32.toNatClampNeg 1) 1) 0 := by
    rw [e1]
    refine ⟨by decide, rfl, by decide, by decide, fun m hm => ?_, fun m hm => pk_un (by omega)⟩
    have hm0 : m = 0 := by omega
    subst hm0
    refine ⟨fun i hi => ?_, fun j hj => ?_⟩
    · have hi0 : i = 0 := by rw [Nat.pow_zero] at hi; omega
      subst hi0
      have h1 := (x_orl (m := 0) (i := 0) (by decide) (by decide)).1
      have h2 : x_or 0 0 = 0 := by rw [Nat.pow_zero] at h1; omega
      rw [h2]
      show upd (fun _ => 0) 1 0 1 = nI 0
      rw [pk_us]; rfl
    · rcases (show j = 0 ∨ j = 1 by omega) with q | q
      · subst q
        rw [x_st0]
        show upd (fun _ => 0) 1 1 0 = nI 0
        rw [pk_un (by decide)]; rfl
      · subst q
        rw [x_stn (by decide) (by decide)]
        show upd (fun _ => 0) 1 1 1 = nI (2 ^ 0)
        rw [pk_us]; rfl
  have hHG : x_HG ((fun _ => none, fun _ _ => 0, 0, 64, 32, 16, []) : x_GS) := ⟨fun x _ => Or.inl (fun _ => rfl), fun x A _ e => (by cases e), ⟨6, rfl⟩, (show 64 ≤ 8192 by decide), ⟨5, rfl⟩, (show 16 ≤ 32 by decide), (show 32 ≤ 4096 by decide), ⟨4, rfl⟩, (show 16 ≤ 16 by decide), (show 16 ≤ 4096 by decide)⟩
  refine ⟨(fun _ => none, fun _ _ => 0, 0, 64, 32, 16, []), 0, 0, ⟨⟨0, fun _ => 0, fun _ => 0, fun _ => 0, fun _ _ _ => 0, ⟨hOk, fun x hx => absurd hx (Nat.not_lt_zero x), fun x hx => absurd hx (Nat.not_lt_zero x), ⟨(show 32 ≤ 4096 by decide), ⟨5, rfl⟩, (show 16 ≤ 32 by decide), fun x hx => absurd hx (Nat.not_lt_zero x), fun c e => (by cases e)⟩, fun x hx => absurd hx (Nat.not_lt_zero x), fun x hx => absurd hx (Nat.not_lt_zero x)⟩, ⟨fun _ _ => rfl, fun _ _ => Or.inl ⟨rfl, rfl, fun _ => rfl⟩, fun x y a _ _ e => (by cases e), Or.inl ⟨rfl, fun _ => rfl⟩, fun x hx => absurd hx (Nat.not_lt_zero x), fun x y hx => absurd hx (Nat.not_lt_zero x)⟩, ⟨Or.inl rfl, Or.inl rfl, fun x y a b A B _ _ e => (by cases e)⟩, fun a e => (by cases e), fun a e => (by cases e), fun x _ => Or.inl (fun _ => rfl), (show 16 ≤ 4096 by decide), (show 16 ≤ 16 by decide), ⟨4, rfl⟩⟩, ⟨⟨0, by decide, rfl⟩, (show 0 ≤ 65536 by decide), (show 0 ≤ 256 by decide), rfl, rfl, fun j x e => (by cases e)⟩, hHG, rfl, (show 0 ≤ 512 by decide), ⟨0, rfl⟩, (show 512 ≤ 16384 by decide), fun i _ => ⟨0, rfl⟩, rfl, rfl, ⟨rfl, rfl, rfl⟩, ⟨rfl, rfl, rfl⟩, (show 20 < 21 by decide)⟩, ⟨hT, px_rV0, fun x _ => Or.inl ⟨rfl, rfl⟩, ⟨(show 0 ≤ 65536 by decide), rfl, fun j x e => (by cases e)⟩, rfl, fun i hi => absurd hi (Nat.not_lt_zero i), rfl, rfl⟩, ⟨Nat.le_refl _, Nat.le_refl _, ?_, ?_⟩⟩
  · exact z_num1 hks
  · exact z_num2 hkc
/-- the classes of arrays that nobody has made yet -/
theorem px_arrO {C : String} {A : Array Value} {s : State} {dC : Nat → ClassId} {dI : Nat → Nat → Nat} (h : (Cond.arrayOver (.object C)).before A s = true) (hK : va_K (dC, dI) vwCl [] s) : ∃ cA, va_K (dC, dI) vwCl [(cA, .object C)] s := by
  obtain ⟨comp, cA, kA, h1, h2, h3, h4, h5⟩ := Cond.arrayOver_spec h
  refine ⟨cA, hK.1, fun k q hq => ?_⟩
  have hk : k = 0 := by
    have := (List.getElem?_eq_some_iff.mp hq).1
    simp at this
    exact this
  subst hk
  cases hq
  exact ⟨fun N z => ⟨(fun k h => by cases h), kA, h3, comp, h4⟩, kA, comp, h3, h4, h1, h5⟩
theorem px_arrA {A : Array Value} {s : State} {dC : Nat → ClassId} {dI : Nat → Nat → Nat} (h : (Cond.arrayOver (.array .int)).before A s = true) (hK : va_K (dC, dI) vwCl [] s) : px_AI s ∧ ∃ cA, va_K (dC, dI) vwCl [(cA, .array .int)] s := by
  obtain ⟨comp, cA, kA, h1, h2, h3, h4, h5⟩ := arrayOverA_spec h
  refine ⟨⟨comp, cA, kA, h1, h3, h4, h5⟩, cA, hK.1, fun k q hq => ?_⟩
  have hk : k = 0 := by
    have := (List.getElem?_eq_some_iff.mp hq).1
    simp at this
    exact this
  subst hk
  cases hq
  refine ⟨fun N z => ⟨(fun k h => by cases h), kA, h3, comp, h4⟩, ?_⟩
  exact h5
