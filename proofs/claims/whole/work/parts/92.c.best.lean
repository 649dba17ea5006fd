/-! PURE: the best basis is what the greedy way finds -/
def x_sw (w : Nat → Int) (S : Nat) : Int := x_sm 12 (fun e => if S.testBit e = true then w e else 0)
theorem x_swt {w : Nat → Int} {S e : Nat} (he : e < 12) (h : S.testBit e = false) : x_sw w (x_t S e) = x_sw w S + w e := x_smt he h
/-- weights that tell all elements apart: the lesser element counts for more -/
def x_wx (w : Nat → Int) (e : Nat) : Int := w e * 8192 + 2 ^ (11 - e)
theorem x_wxlt {w : Nat → Int} {e h : Nat} (he : e < 12) (hh : h < 12) (hl : w e < w h ∨ (w e = w h ∧ h < e)) : x_wx w e < x_wx w h := by
  unfold x_wx
  have p1 : (2 : Int) ^ (11 - e) ≤ 2048 := (show ∀ k, k < 12 → (2 : Int) ^ (11 - k) ≤ 2048 by decide) e he
  have p2 : (1 : Int) ≤ 2 ^ (11 - h) := (show ∀ k, k < 12 → (1 : Int) ≤ 2 ^ (11 - k) by decide) h hh
  rcases hl with q | ⟨q, q2⟩
  · omega
  · have : (2 : Int) ^ (11 - e) < 2 ^ (11 - h) := (show ∀ k, k < 12 → ∀ j, j < 12 → j < k → (2 : Int) ^ (11 - k) < 2 ^ (11 - j) by decide) e he h hh q2
    omega
theorem x_swrev (S : Nat) : x_sm 12 (fun e => if S.testBit e = true then (2 : Int) ^ (11 - e) else 0) = (x_rev S : Int) := by
  have key : ∀ k, k ≤ 12 → x_sm k (fun e => if S.testBit e = true then (2 : Int) ^ (11 - e) else 0) = (x_rev.x_cn2 k S : Int) * 2 ^ (12 - k) := by
    intro k
    induction k with
    | zero => intro _; show (0 : Int) = (0 : Nat) * _; simp
    | succ k ih =>
      intro hk
      show x_sm k (fun e => if S.testBit e = true then (2 : Int) ^ (11 - e) else 0) + (if S.testBit k = true then (2 : Int) ^ (11 - k) else 0) = ((2 * x_rev.x_cn2 k S + (if S.testBit k = true then 1 else 0) : Nat) : Int) * 2 ^ (12 - (k + 1))
      rw [ih (by omega)]
      have e1 : (2 : Int) ^ (12 - k) = 2 * 2 ^ (11 - k) := by
        rw [show 12 - k = (11 - k) + 1 by omega, Int.pow_succ]; grind
      rw [e1, show 12 - (k + 1) = 11 - k by omega]
      by_cases q : S.testBit k = true
      · rw [if_pos q, if_pos q]; grind
      · rw [if_neg q, if_neg q]; grind
  have := key 12 (Nat.le_refl _)
  rw [this]
  show (x_rev.x_cn2 12 S : Int) * 2 ^ (12 - 12) = (x_rev.x_cn2 12 S : Int)
  simp
theorem x_swwx (w : Nat → Int) (S : Nat) : x_sw (x_wx w) S = 8192 * x_sw w S + (x_rev S : Int) := by
  rw [← x_swrev]
  unfold x_sw x_wx
  rw [← x_smm, ← x_sma]
  refine x_smc 12 (fun e _ => ?_)
  by_cases q : S.testBit e = true
  · simp only [if_pos q]; grind
  · simp only [if_neg q]; grind
/-- the best basis: greatest sum, then first in ORDER -/
def x_best (b : Nat → Bool) (w : Nat → Int) (G : Nat) : Prop := b G = true ∧ ∀ B, b B = true → B ≠ G → x_sw w B < x_sw w G ∨ (x_sw w B = x_sw w G ∧ x_key G < x_key B)
theorem x_bestu {b : Nat → Bool} {w : Nat → Int} {G H : Nat} (h : x_best b w G) (h' : x_best b w H) : G = H := by
  refine Classical.byContradiction (fun q => ?_)
  have h1 := h.2 H h'.1 (fun z => q z.symm)
  have h2 := h'.2 G h.1 q
  omega
/-- so far: of the elements seen those are taken that raise the rank; no basis has more of them -/
def x_gi (b : Nat → Bool) (n : Nat) (w : Nat → Int) (seen G : Nat) : Prop := (∀ i, G.testBit i = true → seen.testBit i = true) ∧ (∀ i, seen.testBit i = true → i < n) ∧ x_rk b G = x_n G ∧ x_rk b seen = x_n G ∧ (∀ e f, seen.testBit e = true → f < n → seen.testBit f = false → x_wx w f < x_wx w e) ∧ (∀ B, b B = true → ∀ L : Int, (∀ e, seen.testBit e = true → L < x_wx w e) → (∀ i, i < 12 → G.testBit i = (B &&& seen).testBit i) ∨ ((x_n G : Int) - x_n (B &&& seen)) * L < x_sw (x_wx w) G - x_sw (x_wx w) (B &&& seen))
section XB
variable {n r : Nat} {b : Nat → Bool} {w : Nat → Int}
theorem x_gi0 (h : x_M n r b) : x_gi b n w 0 0 := by
  have hz : x_n 0 = 0 := by decide
  have hr : x_rk b 0 = 0 := by have := x_rkn (b := b) 0; omega
  refine ⟨fun i hi => hi, fun i hi => by rw [Nat.zero_testBit] at hi; exact Bool.noConfusion hi, by rw [hr, hz], by rw [hr, hz], fun e f he => by rw [Nat.zero_testBit] at he; exact Bool.noConfusion he, fun B _ L _ => Or.inl (fun i _ => ?_)⟩
  rw [Nat.testBit_and, Nat.zero_testBit, Bool.and_false]
theorem x_andt {B S e : Nat} (h : S.testBit e = false) : B &&& x_t S e = if B.testBit e = true then x_t (B &&& S) e else B &&& S := by
  apply Nat.eq_of_testBit_eq
  intro i
  rw [Nat.testBit_and]
  by_cases z : i = e
  · rw [z, x_tbs, h]
    by_cases q : B.testBit e = true
    · rw [if_pos q, x_tbs, Nat.testBit_and, h, q]; rfl
    · rw [if_neg q, Nat.testBit_and, h]
      cases hh : B.testBit e
      · rfl
      · exact absurd hh q
  · rw [x_tbn z]
    by_cases q : B.testBit e = true
    · rw [if_pos q, x_tbn z, Nat.testBit_and]
    · rw [if_neg q, Nat.testBit_and]
theorem x_gi1 (h : x_M n r b) {seen G e : Nat} (hi : x_gi b n w seen G) (he : e < n) (hs : seen.testBit e = false) (hmax : ∀ f, f < n → seen.testBit f = false → f ≠ e → x_wx w f < x_wx w e) : x_gi b n w (x_t seen e) (if x_rk b G < x_rk b (x_t G e) then x_t G e else G) := by
  obtain ⟨g1, g2, g3, g4, g5, g6⟩ := hi
  have hn := h.1
  have he12 : e < 12 := by omega
  have hGe : G.testBit e = false := by
    cases hh : G.testBit e
    · rfl
    · rw [g1 e hh] at hs; exact Bool.noConfusion hs
  have u1 := x_rk1 h he12 hGe
  have u0 := x_rk0 h he12 hGe
  have s1 := x_rk1 h he12 hs
  have s0 := x_rk0 h he12 hs
  -- G spans what was seen
  have sp : x_rk b (x_t G e) = x_rk b G → x_rk b (x_t seen e) = x_rk b seen := fun q => x_clo h he12 (fun i _ hb => g1 i hb) hs q
  have sp2 : x_rk b (x_t G e) ≤ x_rk b (x_t seen e) := x_rkm h (fun i _ hb => by
    by_cases z : i = e
    · rw [z, x_tbs, hs]; rfl
    · rw [x_tbn z] at hb ⊢; exact g1 i hb)
  have nG := x_nt0 he12 hGe
  have seen' : ∀ i, (x_t seen e).testBit i = true → i < n := fun i hb => by
    by_cases z : i = e
    · rw [z]; exact he
    · rw [x_tbn z] at hb; exact g2 i hb
  have desc : ∀ e' f, (x_t seen e).testBit e' = true → f < n → (x_t seen e).testBit f = false → x_wx w f < x_wx w e' := by
    intro e' f h1 h2 h3
    have hfe : f ≠ e := fun z => by rw [z, x_tbs, hs] at h3; exact Bool.noConfusion h3
    rw [x_tbn hfe] at h3
    by_cases z : e' = e
    · rw [z]; exact hmax f h2 h3 hfe
    · rw [x_tbn z] at h1; exact g5 e' f h1 h2 h3
  -- any basis: as many at most
  have bnd : ∀ B, b B = true → ∀ S, x_n (B &&& S) ≤ x_rk b S := fun B hB S => by rw [Nat.and_comm]; exact x_rkle h S hB
  have we : ∀ e', seen.testBit e' = true → x_wx w e < x_wx w e' := fun e' h1 => g5 e' e h1 he hs
  by_cases q : x_rk b G < x_rk b (x_t G e)
  · rw [if_pos q]
    refine ⟨fun i hb => ?_, seen', by omega, by omega, desc, fun B hB L hL => ?_⟩
    · by_cases z : i = e
      · rw [z, x_tbs, hs]; rfl
      · rw [x_tbn z] at hb ⊢; exact g1 i hb
    · have hLe : L < x_wx w e := hL e (by rw [x_tbs, hs]; rfl)
      have ho := g6 B hB (x_wx w e) we
      have bs := bnd B hB seen
      have bs' := bnd B hB (x_t seen e)
      have sG := x_swt (w := x_wx w) he12 hGe
      rw [x_andt hs] at bs' ⊢
      have hBe : (B &&& seen).testBit e = false := by rw [Nat.testBit_and, hs, Bool.and_false]
      by_cases qb : B.testBit e = true
      · rw [if_pos qb] at bs' ⊢
        have nB := x_nt0 he12 hBe
        have sB := x_swt (w := x_wx w) he12 hBe
        rcases ho with ho | ho
        · refine Or.inl (fun i hi => ?_)
          by_cases z : i = e
          · rw [z, x_tbs, x_tbs, hGe, hBe]
          · rw [x_tbn z, x_tbn z]; exact ho i hi
        · refine Or.inr ?_
          rw [sG, sB, nG, nB]
          have d0 : (0 : Int) ≤ (x_n G : Int) - x_n (B &&& seen) := by omega
          have d1 : ((x_n G : Int) - x_n (B &&& seen)) * L ≤ ((x_n G : Int) - x_n (B &&& seen)) * x_wx w e := Int.mul_le_mul_of_nonneg_left (by omega) d0
          have d2 : (((x_n G + 1 : Nat) : Int) - ((x_n (B &&& seen) + 1 : Nat) : Int)) * L = ((x_n G : Int) - x_n (B &&& seen)) * L := by grind
          rw [d2]; omega
      · rw [if_neg qb] at bs' ⊢
        refine Or.inr ?_
        rw [sG, nG]
        have d0 : (0 : Int) ≤ (x_n G : Int) - x_n (B &&& seen) := by omega
        have d2 : (((x_n G + 1 : Nat) : Int) - (x_n (B &&& seen) : Int)) * L = ((x_n G : Int) - x_n (B &&& seen)) * L + L := by grind
        rw [d2]
        have d1 : ((x_n G : Int) - x_n (B &&& seen)) * L ≤ ((x_n G : Int) - x_n (B &&& seen)) * x_wx w e := Int.mul_le_mul_of_nonneg_left (by omega) d0
        rcases ho with ho | ho
        · have e1 : x_n G = x_n (B &&& seen) := x_cnc 12 ho
          have e2 : x_sw (x_wx w) G = x_sw (x_wx w) (B &&& seen) := x_smc 12 (fun i hi => by rw [ho i hi])
          rw [e2, e1]
          have : ((x_n (B &&& seen) : Int) - x_n (B &&& seen)) * L = 0 := by rw [Int.sub_self, Int.zero_mul]
          omega
        · omega
  · rw [if_neg q]
    have q' : x_rk b (x_t G e) = x_rk b G := by omega
    have sq := sp q'
    refine ⟨fun i hb => ?_, seen', g3, by omega, desc, fun B hB L hL => ?_⟩
    · have := g1 i hb
      rw [x_tbn (fun z => by rw [z, hs] at this; exact Bool.noConfusion this), this]
    · have hLe : L < x_wx w e := hL e (by rw [x_tbs, hs]; rfl)
      have ho := g6 B hB (x_wx w e) we
      have bs := bnd B hB seen
      have bs' := bnd B hB (x_t seen e)
      rw [x_andt hs] at bs' ⊢
      have hBe : (B &&& seen).testBit e = false := by rw [Nat.testBit_and, hs, Bool.and_false]
      by_cases qb : B.testBit e = true
      · rw [if_pos qb] at bs' ⊢
        have nB := x_nt0 he12 hBe
        have sB := x_swt (w := x_wx w) he12 hBe
        rcases ho with ho | ho
        · have e1 : x_n G = x_n (B &&& seen) := x_cnc 12 ho
          omega
        · refine Or.inr ?_
          rw [sB, nB]
          have d0 : (0 : Int) ≤ (x_n G : Int) - ((x_n (B &&& seen) + 1 : Nat) : Int) := by omega
          have d1 : ((x_n G : Int) - ((x_n (B &&& seen) + 1 : Nat) : Int)) * L ≤ ((x_n G : Int) - ((x_n (B &&& seen) + 1 : Nat) : Int)) * x_wx w e := Int.mul_le_mul_of_nonneg_left (by omega) d0
          have d2 : ((x_n G : Int) - ((x_n (B &&& seen) + 1 : Nat) : Int)) * x_wx w e = ((x_n G : Int) - x_n (B &&& seen)) * x_wx w e - x_wx w e := by grind
          omega
      · rw [if_neg qb] at bs' ⊢
        rcases ho with ho | ho
        · exact Or.inl ho
        · refine Or.inr ?_
          have d0 : (0 : Int) ≤ (x_n G : Int) - x_n (B &&& seen) := by omega
          have d1 : ((x_n G : Int) - x_n (B &&& seen)) * L ≤ ((x_n G : Int) - x_n (B &&& seen)) * x_wx w e := Int.mul_le_mul_of_nonneg_left (by omega) d0
          omega
/-- all are seen: the best basis -/
theorem x_giend (h : x_M n r b) {seen G : Nat} (hs : ∀ i, i < n → seen.testBit i = true) (hG : G < 2 ^ 12) (hi : x_gi b n w seen G) : x_best b w G := by
  obtain ⟨g1, g2, g3, g4, g5, g6⟩ := hi
  have hr : x_rk b seen = r := x_rkall h hs
  obtain ⟨B0, hB0, hsub⟩ := x_ind h g3
  have hb0 := h.2.2.1 B0 hB0
  have hGB : G = B0 := x_ext hG (x_M12 h hB0) (x_cneq 12 hsub (show x_n G = x_n B0 by have := hb0.2; omega))
  refine ⟨by rw [hGB]; exact hB0, fun B hB hne => ?_⟩
  have hb := h.2.2.1 B hB
  have hBs : B &&& seen = B := Nat.eq_of_testBit_eq (fun i => by
    rw [Nat.testBit_and]
    cases hh : B.testBit i
    · rfl
    · have : i < n := by
        refine Classical.byContradiction (fun q => ?_)
        rw [x_hi hb.1 (show n ≤ i by omega)] at hh; exact Bool.noConfusion hh
      rw [hs i this]; rfl)
  have lowest : ∃ L : Int, ∀ e, seen.testBit e = true → L < x_wx w e := by
    have : ∀ m, ∃ L : Int, ∀ e, e < m → L < x_wx w e := by
      intro m
      induction m with
      | zero => exact ⟨0, fun e he => by omega⟩
      | succ m ih =>
        obtain ⟨L, hL⟩ := ih
        refine ⟨min L (x_wx w m - 1), fun e he => ?_⟩
        by_cases z : e = m
        · rw [z]; omega
        · have := hL e (by omega); omega
    obtain ⟨L, hL⟩ := this n
    exact ⟨L, fun e he => hL e (g2 e he)⟩
  obtain ⟨L, hL⟩ := lowest
  have := g6 B hB L hL
  rw [hBs] at this
  have hnG : x_n G = r := by omega
  rcases this with z | z
  · exact absurd (x_ext (x_M12 h hB) hG (fun i hi => (z i hi).symm)) hne
  · rw [hnG, hb.2, Int.sub_self, Int.zero_mul, x_swwx, x_swwx] at z
    have r1 := x_revlt G
    have r2 := x_revlt B
    by_cases q : x_sw w B < x_sw w G
    · exact Or.inl q
    · refine Or.inr ⟨by omega, ?_⟩
      unfold x_key
      rw [hnG, hb.2]
      have : x_rev B < x_rev G := by omega
      omega
end XB
