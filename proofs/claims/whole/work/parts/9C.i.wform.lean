/-! PURE: rows and their form -/
theorem x_Wsz {R : Type} [Lean.Grind.CommRing R] {p : Nat → Nat → R} : ∀ (n : Nat) {S : Nat}, ¬ x_W p n S = 0 → S < 2 ^ 12 ∧ x_n S = n
  | 0, S, h => by
    have h : ¬ (if S = 0 then (1 : R) else 0) = 0 := h
    by_cases q : S = 0
    · rw [q]; exact ⟨by decide, by decide⟩
    · rw [if_neg q] at h; exact absurd rfl h
  | n + 1, S, h => by
    rw [x_Ws] at h
    have hex : ∃ e, e < 12 ∧ S.testBit e = true ∧ ¬ x_W p n (x_t S e) = 0 := Classical.byContradiction (fun w => h (x_sm0 12 (fun e he => by
      by_cases q : S.testBit e = true
      · rw [if_pos q]
        have : x_W p n (x_t S e) = 0 := Classical.byContradiction (fun y => w ⟨e, he, q, y⟩)
        rw [this]; grind
      · rw [if_neg q])))
    obtain ⟨e, he, hb, hn⟩ := hex
    obtain ⟨h1, h2⟩ := x_Wsz n hn
    have h3 := x_tl h1 he
    rw [x_tt] at h3
    exact ⟨h3, by rw [x_nt1 he hb, h2]⟩
theorem x_Wlo {R : Type} [Lean.Grind.CommRing R] {p : Nat → Nat → R} {r n S : Nat} (hn : n ≤ 12) (hz : ∀ i, i < r → ∀ j, j < 12 → n ≤ j → p i j = 0) (h : ¬ x_W p r S = 0) : S < 2 ^ n ∧ x_n S = r := by
  obtain ⟨h1, h2⟩ := x_Wsz r h
  refine ⟨x_lo hn (fun i hi q => Bool.eq_false_iff.2 (fun w => h (x_Wv r (fun i' hi' => hz i' hi' i hi q) S w))) h1, h2⟩
theorem x_Wrow {R : Type} [Lean.Grind.CommRing R] {p : Nat → Nat → R} {r i : Nat} (hi : i < r) : x_Z (x_W p r) (p i) := fun S => x_wd0 _ S (x_rlm' hi)
theorem x_Wu {R : Type} [Lean.Grind.CommRing R] {P : (Nat → R) → Prop} (hP : x_cl P) {p : Nat → Nat → R} {r : Nat} (h : ∀ i, i < r → P (p i)) (T : Nat) : P (x_u (x_W p r) T) := x_uin hP (x_rl p r) (fun q hq => by
  obtain ⟨i, hi, e⟩ := x_rlm hq
  rw [e]; exact h i hi) T
/-- the form of rows is a form of any closed set that they span -/
theorem x_WE2 {R : Type} [Lean.Grind.CommRing R] {P : (Nat → R) → Prop} (hP : x_cl P) {p : Nat → Nat → R} {r : Nat} (h : ∀ i, i < r → P (p i)) : x_E2 P (x_W p r) := fun S e _ _ _ => x_Wu hP h _
theorem x_WE3 {R : Type} [Lean.Grind.CommRing R] (hd : x_dom R) {P : (Nat → R) → Prop} {p : Nat → Nat → R} {r : Nat} (h : ∀ v, P v → x_Z (x_W p r) v) : x_E3 P (x_W p r) := fun S v hS hv h0 => x_Z3 hd (h v hv) hS h0
theorem x_WM {R : Type} [Lean.Grind.CommRing R] (hd : x_dom R) {p : Nat → Nat → R} {r n : Nat} {b : Nat → Bool} (hn : n ≤ 12) (hz : ∀ i, i < r → ∀ j, j < 12 → n ≤ j → p i j = 0) (hb : ∀ S, b S = true ↔ ¬ x_W p r S = 0) (hne : ∃ S, ¬ x_W p r S = 0) : x_M n r b := by
  have hcl := x_Zc hd (x_W p r)
  have hE2 := x_WE2 hcl (p := p) (r := r) (fun i hi => x_Wrow hi)
  have hE3 := x_WE3 hd (P := x_Z (x_W p r)) (p := p) (r := r) (fun v hv => hv)
  refine ⟨hn, ?_, fun B hB => x_Wlo hn hz ((hb B).1 hB), fun B1 B2 e h1 h2 he q1 q2 => ?_⟩
  · obtain ⟨S, hS⟩ := hne
    exact ⟨S, (hb S).2 hS⟩
  · obtain ⟨g, a1, a2, a3, a4⟩ := x_ex hE2 hE3 ((hb B1).1 h1) ((hb B2).1 h2) he q1 q2
    exact ⟨g, a1, a2, a3, (hb _).2 a4⟩
/-- the set of the pivots -/
def x_ps (piv : Nat → Nat) : Nat → Nat
  | 0 => 0
  | r + 1 => x_t (x_ps piv r) (piv r)
theorem x_psb {piv : Nat → Nat} : ∀ (r : Nat), (∀ i i', i < i' → i' < r → piv i ≠ piv i') → ∀ e, (x_ps piv r).testBit e = true ↔ ∃ i, i < r ∧ piv i = e
  | 0, _, e => by
    show (0 : Nat).testBit e = true ↔ _
    rw [Nat.zero_testBit]
    exact ⟨fun h => Bool.noConfusion h, fun ⟨i, hi, _⟩ => absurd hi (Nat.not_lt_zero i)⟩
  | r + 1, h, e => by
    have ih := x_psb r (fun i i' q1 q2 => h i i' q1 (by omega))
    show (x_t (x_ps piv r) (piv r)).testBit e = true ↔ _
    by_cases q : e = piv r
    · rw [q, x_tbs]
      have : (x_ps piv r).testBit (piv r) = false := Bool.eq_false_iff.2 (fun w => by
        obtain ⟨i, hi, w2⟩ := (ih (piv r)).1 w
        exact h i r hi (by omega) w2)
      rw [this]
      exact ⟨fun _ => ⟨r, by omega, rfl⟩, fun _ => rfl⟩
    · rw [x_tbn q, ih e]
      constructor
      · intro ⟨i, hi, w⟩; exact ⟨i, by omega, w⟩
      · intro ⟨i, hi, w⟩
        refine ⟨i, ?_, w⟩
        by_cases z : i = r
        · rw [z] at w; exact absurd w.symm q
        · omega
theorem x_psW {R : Type} [Lean.Grind.CommRing R] (hd : x_dom R) {p : Nat → Nat → R} {piv : Nat → Nat} : ∀ (r : Nat), (∀ i i', i < i' → i' < r → piv i ≠ piv i') → (∀ i, i < r → piv i < 12 ∧ ¬ p i (piv i) = 0) → (∀ i i', i < r → i' < r → i' ≠ i → p i' (piv i) = 0) → ¬ x_W p r (x_ps piv r) = 0
  | 0, _, _, _ => by show ¬ (if (0 : Nat) = 0 then (1 : R) else 0) = 0; rw [if_pos rfl]; exact hd.2
  | r + 1, h1, h2, h3 => by
    have ih := x_psW hd r (fun i i' q1 q2 => h1 i i' q1 (by omega)) (fun i hi => h2 i (by omega)) (fun i i' q1 q2 q3 => h3 i i' (by omega) (by omega) q3)
    have hb := x_psb r (piv := piv) (fun i i' q1 q2 => h1 i i' q1 (by omega))
    have hn : (x_ps piv r).testBit (piv r) = false := Bool.eq_false_iff.2 (fun w => by
      obtain ⟨i, hi, w2⟩ := (hb (piv r)).1 w
      exact h1 i r hi (by omega) w2)
    rw [x_Ws]
    show ¬ x_w (p r) (x_W p r) (x_t (x_ps piv r) (piv r)) = 0
    unfold x_w
    rw [x_sm1 (k := piv r) 12 (h2 r (by omega)).1 (fun e he hne => ?_)]
    · rw [if_pos (by rw [x_tbs, hn]; rfl), x_tt]
      intro w
      rcases hd.1 _ _ w with y | y
      · exact x_sne' (h2 r (by omega)).2 y
      · exact ih y
    · by_cases q : (x_t (x_ps piv r) (piv r)).testBit e = true
      · rw [if_pos q]
        rw [x_tbn hne] at q
        obtain ⟨i, hi, w2⟩ := (hb e).1 q
        rw [← w2, h3 i r (by omega) (by omega) (by omega)]; grind
      · rw [if_neg q]
