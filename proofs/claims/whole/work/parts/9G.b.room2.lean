/-! PURE: room, what is asked -/
/-- a letter's row of lengths: what is listed has its ranks -/
def x_rkA (n : Nat) (g : Nat → Nat) : Prop := x_rok g ∧ ∀ k, k < 4 → ¬ g (30 + k) = 0 → 2 ^ n ≤ g 7
theorem x_rA7 {g : Nat → Nat} {n : Nat} (h : x_rkA n g) (hn : n ≤ 12) : x_rkA n (x_g7 n g) := by
  refine ⟨(x_rk7 h.1 hn).1, fun k hk _ => ?_⟩
  show 2 ^ n ≤ max (g 7) (2 ^ n)
  omega
theorem x_g7m {g : Nat → Nat} (n : Nat) : g 7 ≤ x_g7 n g 7 := by
  show g 7 ≤ max (g 7) (2 ^ n)
  omega
theorem x_rA7' {g : Nat → Nat} {n m : Nat} (h : x_rkA m g) (hn : n ≤ 12) : x_rkA m (x_g7 n g) := by
  refine ⟨(x_rk7 h.1 hn).1, fun k hk hz => Nat.le_trans (h.2 k hk ?_) (x_g7m n)⟩
  have e : x_g7 n g (30 + k) = g (30 + k) := if_neg (by omega)
  rw [e] at hz; exact hz
theorem x_rAL {g : Nat → Nat} {n N k : Nat} (h : x_rkA n g) (hn : n ≤ 12) (hN : N ≤ 4096) (hk : k < 4) : x_rkA n (x_gL n N k g) ∧ 2 ^ n ≤ x_gL n N k g 7 := by
  have key : 2 ^ n ≤ x_gL n N k g 7 := by
    unfold x_gL
    by_cases q : g (30 + k) = 0
    · rw [if_pos q, if_pos rfl]; omega
    · rw [if_neg q]; exact h.2 k hk q
  exact ⟨⟨(x_rkL h.1 hn hN hk).1, fun _ _ _ => key⟩, key⟩
theorem x_rAT {g : Nat → Nat} {n : Nat} (h : x_rkA n g) (hn : n ≤ 12) : x_rkA n (x_gT n g) := by
  refine ⟨(x_rkT h.1 hn).1, fun k hk hz => ?_⟩
  unfold x_gT at hz ⊢
  by_cases q : g 29 = 0
  · rw [if_pos q, if_pos rfl]; omega
  · rw [if_neg q] at hz ⊢
    exact h.2 k hk hz
theorem x_rAS {g : Nat → Nat} {n N : Nat} (h : x_rkA n g) (hn : n ≤ 12) (hN : N ≤ 4096) : x_rkA n (x_gS n N g) ∧ x_scs n N g + 2 * x_W7 g ≤ 2 * x_W7 (x_gS n N g) ∧ 4 * x_scc n N g + x_W7 g ≤ x_W7 (x_gS n N g) := by
  obtain ⟨l1, l2, l3⟩ := x_rkL (k := 1) h.1 hn hN (by decide)
  obtain ⟨a1, a2⟩ := x_rAL (k := 1) h hn hN (by decide)
  have c0 : ¬ x_gL n N 1 g 7 < 2 ^ n := by omega
  obtain ⟨m1, m2, m3⟩ := x_rk7 l1 hn
  unfold x_gS x_scs x_scc
  rw [if_neg c0, if_neg c0]
  by_cases q : N = 0
  · rw [if_pos q]
    exact ⟨a1, by omega, by omega⟩
  · rw [if_neg q]
    exact ⟨x_rA7 a1 hn, by omega, by omega⟩
/-- lengths, in all -/
def x_Ph (G : x_GS) : Nat := x_SW G.2.1 27 + G.2.2.2.1 + 3 * G.2.2.2.2.1 + 3 * G.2.2.2.2.2.1
def x_HG (G : x_GS) : Prop := (∀ x, x < 27 → (∀ k, G.2.1 x k = 0) ∨ x_rok (G.2.1 x)) ∧ (∀ x A, x < 26 → G.1 x = some A → A.2.1 ≤ 12 ∧ x_rkA A.2.1 (G.2.1 x)) ∧ c_p2 G.2.2.2.1 ∧ G.2.2.2.1 ≤ 8192 ∧ c_p2 G.2.2.2.2.1 ∧ 16 ≤ G.2.2.2.2.1 ∧ G.2.2.2.2.1 ≤ 4096 ∧ c_p2 G.2.2.2.2.2.1 ∧ 16 ≤ G.2.2.2.2.2.1 ∧ G.2.2.2.2.2.1 ≤ 4096
theorem x_W70 {g : Nat → Nat} (h : ∀ k, g k = 0) : x_W7 g = 0 := by
  unfold x_W7
  rw [h, h, h, h, h, h, h]
theorem x_PhB {G : x_GS} (h : x_HG G) : x_Ph G ≤ 700883 := by
  obtain ⟨h1, _, _, h4, _, _, h7, _, _, h10⟩ := h
  have : x_SW G.2.1 27 ≤ 27 * 24745 := x_nSb 27 (fun x hx => by
    rcases h1 x hx with q | q
    · rw [x_W70 q]; exact Nat.zero_le _
    · exact x_rokW q)
  unfold x_Ph
  omega
section XHG
variable {lt : Nat → Option x_LR} {sk : Nat → Nat → Nat} {st lo lm lw : Nat} {U : List Nat} {A B : x_LR} {f f2 : Nat} {r : Nat → Nat}
/-- one row changes -/
theorem x_HGu {s c : Nat} (h : x_HG (lt, sk, st, lo, lm, lw, U)) (hf : f < 26) (hA : lt f = some A) (hr : x_rkA A.2.1 r) (hs : s + 2 * x_W7 (sk f) ≤ 2 * x_W7 r) (hc : 4 * c + x_W7 (sk f) ≤ x_W7 r) : x_HG (lt, va_up sk f r, st, lo, lm, lw, U) ∧ s + 2 * x_Ph (lt, sk, st, lo, lm, lw, U) ≤ 2 * x_Ph (lt, va_up sk f r, st, lo, lm, lw, U) ∧ 4 * c + x_Ph (lt, sk, st, lo, lm, lw, U) ≤ x_Ph (lt, va_up sk f r, st, lo, lm, lw, U) := by
  obtain ⟨h1, h2, h3⟩ := h
  have e := x_SWu (sk := sk) (f := f) (r := r) 27 (by omega)
  refine ⟨⟨fun x hx => ?_, fun x A' hx e' => ?_, h3⟩, ?_, ?_⟩
  · show (∀ k, va_up sk f r x k = 0) ∨ x_rok (va_up sk f r x)
    by_cases q : x = f
    · rw [q, va_up_self]; exact Or.inr hr.1
    · rw [va_up_ne _ _ q]; exact h1 x hx
  · show A'.2.1 ≤ 12 ∧ x_rkA A'.2.1 (va_up sk f r x)
    have h2' := h2 x A' hx e'
    by_cases q : x = f
    · subst q
      have e2 : lt x = some A' := e'
      rw [hA] at e2; cases e2
      rw [va_up_self]; exact ⟨h2'.1, hr⟩
    · rw [va_up_ne _ _ q]; exact h2'
  · show s + 2 * (x_SW sk 27 + lo + 3 * lm + 3 * lw) ≤ 2 * (x_SW (va_up sk f r) 27 + lo + 3 * lm + 3 * lw)
    omega
  · show 4 * c + (x_SW sk 27 + lo + 3 * lm + 3 * lw) ≤ x_SW (va_up sk f r) 27 + lo + 3 * lm + 3 * lw
    omega
/-- the witness's tables grow -/
theorem x_HGw {n : Nat} (hn : n ≤ 12) (h : x_HG (lt, sk, st, lo, lm, lw, U)) : x_HG (lt, sk, st, lo, lm, max lw (2 ^ n), U) ∧ (if 2 ^ n ≤ lw then 0 else 3 * 2 ^ n) + 2 * x_Ph (lt, sk, st, lo, lm, lw, U) ≤ 2 * x_Ph (lt, sk, st, lo, lm, max lw (2 ^ n), U) ∧ 4 * (if 2 ^ n ≤ lw then 0 else 3) + x_Ph (lt, sk, st, lo, lm, lw, U) ≤ x_Ph (lt, sk, st, lo, lm, max lw (2 ^ n), U) := by
  obtain ⟨h1, h2, h3, h4, h5, h6, h7, h8, h9, h10⟩ := h
  have hp := x_p12 hn
  have h8' : c_p2 lw := h8
  have h9' : 16 ≤ lw := h9
  have h10' : lw ≤ 4096 := h10
  refine ⟨⟨h1, h2, h3, h4, h5, h6, h7, c_p2m h8', ?_, ?_⟩, ?_, ?_⟩
  · show 16 ≤ max lw (2 ^ n); omega
  · show max lw (2 ^ n) ≤ 4096; omega
  · show (if 2 ^ n ≤ lw then 0 else 3 * 2 ^ n) + 2 * (x_SW sk 27 + lo + 3 * lm + 3 * lw) ≤ 2 * (x_SW sk 27 + lo + 3 * lm + 3 * max lw (2 ^ n))
    by_cases q : 2 ^ n ≤ lw
    · rw [if_pos q]; omega
    · rw [if_neg q]
      have := c_p2d h8' ⟨n, rfl⟩ (by omega)
      omega
  · show 4 * (if 2 ^ n ≤ lw then 0 else 3) + (x_SW sk 27 + lo + 3 * lm + 3 * lw) ≤ x_SW sk 27 + lo + 3 * lm + 3 * max lw (2 ^ n)
    by_cases q : 2 ^ n ≤ lw
    · rw [if_pos q]; omega
    · rw [if_neg q]
      have := c_p2d h8' ⟨n, rfl⟩ (by omega)
      omega
/-- ranks of two asked for -/
theorem x_HG2 (h : x_HG (lt, sk, st, lo, lm, lw, U)) (hf : f < 26) (hg : f2 < 26) (hA : lt f = some A) (hB : lt f2 = some B) : x_HG (lt, x_sk2 A B f f2 sk, st, lo, lm, lw, U) ∧ x_2s A B f f2 sk + 2 * x_Ph (lt, sk, st, lo, lm, lw, U) ≤ 2 * x_Ph (lt, x_sk2 A B f f2 sk, st, lo, lm, lw, U) ∧ 4 * x_2c A B f f2 sk + x_Ph (lt, sk, st, lo, lm, lw, U) ≤ x_Ph (lt, x_sk2 A B f f2 sk, st, lo, lm, lw, U) := by
  have aa : A.2.1 ≤ 12 ∧ x_rkA A.2.1 (sk f) := h.2.1 f A hf hA
  obtain ⟨a1, a2⟩ := aa
  have bb : B.2.1 ≤ 12 ∧ x_rkA B.2.1 (sk f2) := h.2.1 f2 B hg hB
  obtain ⟨b1, b2⟩ := bb
  obtain ⟨_, c2, c3⟩ := x_rk7 a2.1 a1
  obtain ⟨k1, k2, k3⟩ := x_HGu h hf hA (x_rA7 a2 a1) c2 c3
  obtain ⟨d1, d2⟩ := k1.2.1 f2 B hg hB
  have d2' : x_rkA B.2.1 (va_up sk f (x_g7 A.2.1 (sk f)) f2) := d2
  obtain ⟨_, e2, e3⟩ := x_rk7 d2'.1 b1
  obtain ⟨l1, l2, l3⟩ := x_HGu k1 hg hB (x_rA7 d2' b1) e2 e3
  have g7 : f2 ≠ f → va_up sk f (x_g7 A.2.1 (sk f)) f2 = sk f2 := fun q => va_up_ne _ _ q
  refine ⟨l1, ?_, ?_⟩
  · unfold x_2s
    show _ ≤ 2 * x_Ph (lt, va_up (va_up sk f (x_g7 A.2.1 (sk f))) f2 (x_g7 B.2.1 (va_up sk f (x_g7 A.2.1 (sk f)) f2)), st, lo, lm, lw, U)
    by_cases q : f2 = f
    · rw [if_pos q]
      omega
    · rw [if_neg q]
      rw [g7 q] at l2 ⊢
      omega
  · unfold x_2c
    show _ ≤ x_Ph (lt, va_up (va_up sk f (x_g7 A.2.1 (sk f))) f2 (x_g7 B.2.1 (va_up sk f (x_g7 A.2.1 (sk f)) f2)), st, lo, lm, lw, U)
    by_cases q : f2 = f
    · rw [if_pos q]
      omega
    · rw [if_neg q]
      rw [g7 q] at l3 ⊢
      omega
/-- what is told or asked -/
theorem x_tkRm {v : Nat} (h : x_HG (lt, sk, st, lo, lm, lw, U)) (hv : 8 ≤ v) (hf : f < 26) (hA : lt f = some A) (hB : v = 16 ∨ v = 19 → f2 < 26 ∧ lt f2 = some B) : x_HG (lt, x_tkS v A B f f2 sk, st, lo, lm, x_tkW v A B lw, U) ∧ x_tkE v A B f f2 sk lw + 2 * x_Ph (lt, sk, st, lo, lm, lw, U) ≤ 2 * x_Ph (lt, x_tkS v A B f f2 sk, st, lo, lm, x_tkW v A B lw, U) ∧ 4 * x_tkC v A B f f2 sk lw + x_Ph (lt, sk, st, lo, lm, lw, U) ≤ x_Ph (lt, x_tkS v A B f f2 sk, st, lo, lm, x_tkW v A B lw, U) := by
  have aa : A.2.1 ≤ 12 ∧ x_rkA A.2.1 (sk f) := h.2.1 f A hf hA
  obtain ⟨a1, a2⟩ := aa
  have hN : ∀ k, (x_fam (x_bg A.1 A.2.2.2.1) A.2.1 A.2.2.1 k).length ≤ 4096 := fun k => x_faml a1
  have slF : ¬ v = 19 → x_slw v A B = false := fun q => decide_eq_false (fun z => q z.1)
  unfold x_tkS x_tkE x_tkC x_tkW
  by_cases q14 : v = 14
  · rw [if_pos q14, if_pos q14, if_pos q14, slF (by omega), if_neg (by decide)]
    obtain ⟨_, c2, c3⟩ := x_rkT a2.1 a1
    exact x_HGu h hf hA (x_rAT a2 a1) c2 c3
  rw [if_neg q14, if_neg q14, if_neg q14]
  by_cases q15 : v = 15 ∨ v = 20
  · rw [if_pos q15, if_pos q15, if_pos q15, slF (by omega), if_neg (by decide)]
    obtain ⟨_, c2, c3⟩ := x_rk7 a2.1 a1
    exact x_HGu h hf hA (x_rA7 a2 a1) c2 c3
  rw [if_neg q15, if_neg q15, if_neg q15]
  by_cases q18 : v = 18
  · rw [if_pos q18, if_pos q18, if_pos q18, slF (by omega), if_neg (by decide)]
    obtain ⟨c1, c2, c3⟩ := x_rAS a2 a1 (hN 1)
    exact x_HGu h hf hA c1 c2 c3
  rw [if_neg q18, if_neg q18, if_neg q18]
  by_cases q16 : v = 16 ∨ x_slw v A B = true
  · rw [if_pos q16, if_pos q16, if_pos q16]
    have hv19 : v = 16 ∨ v = 19 := q16.elim Or.inl (fun z => Or.inr (of_decide_eq_true z).1)
    obtain ⟨hg, hBB⟩ := hB hv19
    obtain ⟨k1, k2, k3⟩ := x_HG2 h hf hg hA hBB
    unfold x_2s at k2
    unfold x_2c at k3
    by_cases q : v = 16
    · rw [slF (by omega), if_neg (by decide), if_pos (Or.inl q), if_pos (Or.inl q)]
      exact ⟨k1, by unfold x_sk2 at k2; omega, by unfold x_sk2 at k3; omega⟩
    · have sl : x_slw v A B = true := q16.resolve_left q
      obtain ⟨w1, w2, w3⟩ := x_HGw a1 k1
      rw [sl, if_pos rfl]
      have ei : ∀ x y : Nat, (if v = 16 ∨ 2 ^ A.2.1 ≤ lw then x else y) = if 2 ^ A.2.1 ≤ lw then x else y := fun x y => by
        by_cases z : 2 ^ A.2.1 ≤ lw
        · rw [if_pos z, if_pos (Or.inr z)]
        · rw [if_neg z, if_neg (fun y => y.elim q z)]
      rw [ei, ei]
      refine ⟨w1, ?_, ?_⟩
      · unfold x_sk2 at k2 w2; omega
      · unfold x_sk2 at k3 w3; omega
  rw [if_neg q16, if_neg q16, if_neg q16]
  have sl : x_slw v A B = false := by
    cases hh : x_slw v A B with
    | false => rfl
    | true => exact absurd (Or.inr hh) q16
  rw [sl, if_neg (show ¬ (false = true) by decide)]
  by_cases qL : 10 ≤ v ∧ v ≤ 13
  · rw [if_pos qL, if_pos qL, if_pos qL]
    obtain ⟨_, c2, c3⟩ := x_rkL (k := v - 10) a2.1 a1 (hN (v - 10)) (by omega)
    exact x_HGu h hf hA (x_rAL a2 a1 (hN (v - 10)) (by omega)).1 c2 c3
  · rw [if_neg qL, if_neg qL, if_neg qL]
    exact ⟨h, by omega, by omega⟩
end XHG
