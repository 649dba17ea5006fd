/-! PURE, the reference: a row and a column left out of a determinant; placeOf, remove -/
def x_skp (a0 a : Nat) : Nat := if a < a0 then a else a + 1
theorem x_skpu {a0 m : Nat} (hm : m < 12) : x_up m (x_skp a0) := by
  refine ⟨fun i j h1 h2 => ?_, fun j hj => ?_⟩
  · unfold x_skp; split <;> split <;> omega
  · unfold x_skp; split <;> omega
theorem x_odT {m b : Nat} (hm : m < 12) (hb : b ≤ m) : x_od (2 ^ (m + 1) - 1) b = decide ((m - b) % 2 = 1) := by
  have main : ∀ d b, b + d = m → x_od (2 ^ (m + 1) - 1) b = decide (d % 2 = 1) := by
    intro d
    induction d with
    | zero => intro b hb; rw [x_Tod (by omega)]; rfl
    | succ d ih =>
      intro b hb
      rw [x_ods (by omega), ih (b + 1) (by omega), x_Tb, decide_eq_true (show b + 1 < m + 1 by omega)]
      rcases (show d % 2 = 0 ∨ d % 2 = 1 by omega) with q | q
      · rw [decide_eq_false (show ¬ d % 2 = 1 by omega), decide_eq_true (show (d + 1) % 2 = 1 by omega)]; rfl
      · rw [decide_eq_true q, decide_eq_false (show ¬ (d + 1) % 2 = 1 by omega)]; rfl
  exact main (m - b) b (by omega)
theorem x_dsk {R : Type} [Lean.Grind.CommRing R] {q : Nat → Nat → R} {m a0 b0 : Nat} (hm : m < 12) (ha : a0 ≤ m) (hb : b0 ≤ m) (hz : ∀ a, a < m + 1 → a ≠ a0 → q a b0 = 0) : x_d q (m + 1) = x_s R (decide ((a0 + b0) % 2 = 1)) * q a0 b0 * x_d (fun a b => q (x_skp a0 a) (x_skp b0 b)) m := by
  have hbit : (2 ^ (m + 1) - 1).testBit b0 = true := by rw [x_Tb]; exact decide_eq_true (by omega)
  have h1 := x_Wx (p := q) (c := b0) (i := a0) (by omega) m (by omega) hz (2 ^ (m + 1) - 1) hbit
  have hS : x_t (2 ^ (m + 1) - 1) b0 = x_sd m (x_skp b0) (2 ^ m - 1) := by
    have hl : 2 ^ (m + 1) - 1 < 2 ^ 12 := by
      have : 2 ^ (m + 1) ≤ 2 ^ 12 := Nat.pow_le_pow_right (by decide) (by omega)
      have := Nat.two_pow_pos (m + 1)
      omega
    refine x_ext (x_tl hl (by omega)) (x_sdl m (x_skpu hm)) (fun i hi => ?_)
    by_cases w : i = b0
    · subst w
      rw [x_tbs, hbit, x_sdo m (fun j hj => by unfold x_skp; split <;> omega)]; rfl
    · rw [x_tbn w, x_Tb]
      by_cases w1 : i < m + 1
      · have : ∃ j, j < m ∧ x_skp b0 j = i := by
          by_cases w2 : i < b0
          · exact ⟨i, by omega, if_pos w2⟩
          · exact ⟨i - 1, by omega, by unfold x_skp; rw [if_neg (by omega)]; omega⟩
        obtain ⟨j, hj, ej⟩ := this
        rw [← ej, x_sdb m (x_skpu hm) j hj, x_Tb, decide_eq_true hj, ej, decide_eq_true w1]
      · rw [decide_eq_false w1, x_sdo m (fun j hj => by unfold x_skp; split <;> omega)]
  have hk : x_sk q a0 = fun a => q (x_skp a0 a) := by
    funext a
    unfold x_sk x_skp
    split <;> rfl
  rw [hS, x_Wk (by omega) (x_skpu hm) m (2 ^ m - 1) (by have := Nat.two_pow_pos m; omega), hk, x_odT hm hb] at h1
  have hs : x_s R (decide ((m - a0) % 2 = 1)) * x_s R (decide ((m - b0) % 2 = 1)) = x_s R (decide ((a0 + b0) % 2 = 1)) := by
    rw [← x_sx]
    congr 1
    rcases (show (m - a0) % 2 = 0 ∨ (m - a0) % 2 = 1 by omega) with w1 | w1 <;> rcases (show (m - b0) % 2 = 0 ∨ (m - b0) % 2 = 1 by omega) with w2 | w2
    · rw [decide_eq_false (show ¬ (m - a0) % 2 = 1 by omega), decide_eq_false (show ¬ (m - b0) % 2 = 1 by omega), decide_eq_false (show ¬ (a0 + b0) % 2 = 1 by omega)]; rfl
    · rw [decide_eq_false (show ¬ (m - a0) % 2 = 1 by omega), decide_eq_true w2, decide_eq_true (show (a0 + b0) % 2 = 1 by omega)]; rfl
    · rw [decide_eq_true w1, decide_eq_false (show ¬ (m - b0) % 2 = 1 by omega), decide_eq_true (show (a0 + b0) % 2 = 1 by omega)]; rfl
    · rw [decide_eq_true w1, decide_eq_true w2, decide_eq_false (show ¬ (a0 + b0) % 2 = 1 by omega)]; rfl
  rw [hs] at h1
  exact h1
section RPL
variable {g : Nat → Int32} {m a0 v : Nat} {ro : Nat → Nat}
theorem r_placeOf {post : Int32 → (Nat → Int32) → Prop} (hm : m ≤ 12) (hg : ∀ a, a < m → g a = nI (ro a) ∧ ro a < 13) (hv : v < 13) (ha : a0 < m) (he : ro a0 = v) (hu : ∀ a, a < a0 → ro a ≠ v) (h : post (nI a0) g) : w58_wp 12 post (nI m) (nI v) g := by
  have main : ∀ (u a : Nat), a + u = a0 → w58_L2 12 post (u + 1) (nI m) (nI v) (nI a) g := by
    intro u
    induction u with
    | zero =>
      intro a hau
      have : a = a0 := by omega
      subst this
      unfold w58_L2 w58_L20
      rw [nI_clamp (show a < 2 ^ 31 by omega), (hg a ha).1, he]
      exact ⟨fun w => absurd w (nI_ge (by omega) (by omega)), fun _ => ⟨b_in (by omega) (by omega), fun _ => h, fun w => absurd rfl w⟩⟩
    | succ u ih =>
      intro a hau
      unfold w58_L2 w58_L20
      have hga := hg a (by omega)
      rw [nI_clamp (show a < 2 ^ 31 by omega), hga.1]
      refine ⟨fun w => absurd w (nI_ge (by omega) (by omega)), fun _ => ⟨b_in (by omega) (by omega), fun w => absurd ((nI_eq (by omega) (by omega)).1 w) (hu a (by omega)), fun _ z ez => ?_⟩⟩
      rw [ez, nI_1]
      exact ih (a + 1) (by omega)
  exact ⟨a0 + 1, main a0 0 (by omega)⟩
theorem r_remove {post : (Nat → Int32) → Prop} (hm : m ≤ 11) (ha : a0 ≤ m) (h : ∀ g', (∀ a, a < m → g' a = g (x_skp a0 a)) → post g') : w59_wp 12 post (nI (m + 1)) (nI a0) g := by
  have main : ∀ (u a : Nat) (g1 : Nat → Int32), a + u = m → a0 ≤ a → (∀ b, b < a → g1 b = g (x_skp a0 b)) → (∀ b, a ≤ b → g1 b = g b) → w59_L2 12 post (u + 1) (nI (m + 1)) (nI a0) (nI a) g1 := by
    intro u
    induction u with
    | zero =>
      intro a g1 hau ha0 h1 h2
      have : a = m := by omega
      subst this
      unfold w59_L2
      rw [nI_1]
      exact ⟨fun _ => h g1 h1, fun w => absurd (nI_le (Nat.le_refl _) (by omega)) w⟩
    | succ u ih =>
      intro a g1 hau ha0 h1 h2
      unfold w59_L2
      rw [nI_1, nI_clamp (show a + 1 < 2 ^ 31 by omega), nI_clamp (show a < 2 ^ 31 by omega)]
      refine ⟨fun w => absurd w (nI_ge (by omega) (by omega)), fun _ => ⟨b_in (by omega) (by omega), fun z1 e1 => ⟨b_in (by omega) (by omega), fun z2 e2 => ?_⟩⟩⟩
      rw [e2]
      refine ih (a + 1) _ (by omega) (by omega) (fun b hb => ?_) (fun b hb => ?_)
      · by_cases q : b = a
        · subst q
          rw [pk_us, e1, h2 _ (by omega)]
          unfold x_skp; rw [if_neg (by omega)]
        · rw [pk_un q]; exact h1 b (by omega)
      · rw [pk_un (by omega)]; exact h2 b (by omega)
  refine ⟨m - a0 + 1, main (m - a0) a0 g (by omega) (Nat.le_refl a0) (fun b hb => ?_) (fun b _ => rfl)⟩
  unfold x_skp; rw [if_pos hb]
end RPL
