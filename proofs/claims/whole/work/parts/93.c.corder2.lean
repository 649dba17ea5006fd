/-! PURE, the class: Orders.build, reach over their tables -/
section COB
variable {q_o l_o : Nat} {o_r : Int32} {n : Nat} {post : Nat → Nat → Int32 → (Nat → Int32) → (Nat → Int32) → Prop}
/-- the places from 2^(n+1) on hold a list; those below are as they were -/
def o_h (n : Nat) (g0 g : Nat → Int32) (W : List Nat) : Prop := (∀ j x, W[j]? = some x → g (2 ^ (n + 1) + j) = nI x) ∧ ∀ i, i < 2 ^ (n + 1) → g i = g0 i
theorem o_ha {g0 g : Nat → Int32} {W : List Nat} {x : Nat} (h : o_h n g0 g W) : o_h n g0 (upd g (2 ^ (n + 1) + W.length) (nI x)) (W ++ [x]) := by
  refine ⟨fun j y hy => ?_, fun i hi => by rw [pk_un (by omega)]; exact h.2 i hi⟩
  by_cases z : j = W.length
  · rw [z, List.getElem?_append_right (Nat.le_refl _), Nat.sub_self] at hy
    rw [z, pk_us]
    have : x = y := by simpa using hy
    rw [this]
  · rw [pk_un (by omega)]
    by_cases z2 : j < W.length
    · rw [List.getElem?_append_left z2] at hy; exact h.1 j y hy
    · rw [List.getElem?_eq_none (by rw [List.length_append]; show W.length + 1 ≤ j; omega)] at hy
      exact absurd hy (by simp)
theorem b_dbl : ∀ d, d < 2 → ∀ S, S < 4096 → nI S <<< ((1 : Int32) &&& 31) ||| nI d = nI (2 * S + d) := by
  intro d hd S hS
  have e := pk_shlN (n := S) ((1 : Int32) &&& 31) 1 (by decide) (by omega)
  rw [e, b_or]
  congr 1
  rw [show S * 2 ^ 1 = 2 * S by omega]
  apply Nat.eq_of_testBit_eq
  intro i
  rcases (show d = 0 ∨ d = 1 by omega) with z | z
  · rw [z, Nat.or_zero, Nat.add_zero]
  · subst z
    rw [Nat.testBit_or]
    cases i with
    | zero => simp
    | succ i => rw [Nat.testBit_succ, Nat.testBit_succ, Nat.testBit_succ, show (2 * S + 1) / 2 = 2 * S / 2 by omega, show (1 : Nat) / 2 = 0 from rfl, Nat.zero_testBit, Bool.or_false]
theorem c_b93 {K13 : Int32 → Int32 → Int32 → Int32 → Nat → Nat → Int32 → (Nat → Int32) → (Nat → Int32) → Prop} {K39 : Int32 → Int32 → Int32 → Int32 → Int32 → Nat → Nat → Int32 → (Nat → Int32) → (Nat → Int32) → Prop} {m d : Nat} {g0 g_t : Nat → Int32} {x1 x4 x6 : Int32} {P : List Nat} (hn : n ≤ 11) (hd : d < 2) (hl : 2 ^ (n + 2) ≤ l_o) (hl2 : l_o ≤ 8192) (hg0 : ∀ i, i < 2 ^ n → g0 (2 ^ n + i) = nI (x_or n i)) (hroom : P.length + (x_st n (m + 1) - x_st n m) ≤ 2 ^ (n + 1))
    (hK : ∀ g, o_h n g0 g (P ++ (x_sl n m).map (fun S => 2 * S + d)) → K39 x1 (nI (2 ^ n)) (nI (2 ^ (n + 1) + (P ++ (x_sl n m).map (fun S => 2 * S + d)).length)) x4 (nI d + (-1)) q_o l_o o_r g g_t) :
    ∀ (u t : Nat) (g : Nat → Int32), t + u = x_st n (m + 1) - x_st n m → o_h n g0 g (P ++ ((x_sl n m).take t).map (fun S => 2 * S + d)) → w184_L93 K13 K39 post (u + 1) x1 (nI (2 ^ n)) (nI (2 ^ (n + 1) + (P.length + t))) x4 (nI d) x6 (nI (x_st n (m + 1))) (nI (x_st n m + t)) q_o l_o o_r g g_t := by
  have hst := x_stl (m := n) (j := m + 1) (show n ≤ 12 by omega)
  have hmono := x_stm (n := n) (show m ≤ m + 1 by omega)
  have hp : 2 ^ n ≤ 2048 := Nat.pow_le_pow_right (by decide) hn
  have hp1 : 2 ^ (n + 1) = 2 ^ n * 2 := Nat.pow_succ 2 n
  have hp2 : 2 ^ (n + 2) = 2 ^ n * 2 * 2 := by rw [Nat.pow_succ, Nat.pow_succ]
  have hsl := x_sll (n := n) (m := m) (show n ≤ 12 by omega)
  intro u
  induction u with
  | zero =>
    intro t g ht hh
    unfold w184_L93
    refine ⟨fun _ z e => ?_, fun z => absurd (nI_le (show x_st n (m + 1) ≤ x_st n m + t by omega) (by omega)) z⟩
    have htk : (x_sl n m).take t = x_sl n m := List.take_of_length_le (by omega)
    rw [htk] at hh
    rw [e]
    have := hK g hh
    rw [List.length_append, List.length_map, hsl, show x_st n (m + 1) - x_st n m = t by omega] at this
    exact this
  | succ u ih =>
    intro t g ht hh
    have hti : x_st n m + t < 2 ^ n := by omega
    obtain ⟨o1, o2⟩ := x_orl (show n ≤ 12 by omega) hti
    unfold w184_L93
    refine ⟨fun z => absurd z (nI_ge (by omega) (by omega)), fun _ => ?_⟩
    rw [nI_add, nI_clamp (show 2 ^ n + (x_st n m + t) < 2 ^ 31 by omega), hh.2 _ (by omega), hg0 _ hti, b_dbl d hd _ (by omega)]
    refine ⟨b_in (by omega) (by omega), fun z2 e2 => ⟨b_in (by omega) (by omega), fun z3 e3 z4 e4 => ?_⟩⟩
    rw [e3, e4, nI_1, nI_1, nI_clamp (show 2 ^ (n + 1) + (P.length + t) < 2 ^ 31 by omega), e2]
    have hlen : (P ++ ((x_sl n m).take t).map (fun S => 2 * S + d)).length = P.length + t := by
      rw [List.length_append, List.length_map, List.length_take]; omega
    have := ih (t + 1) (upd g (2 ^ (n + 1) + (P.length + t)) (nI (2 * x_or n (x_st n m + t) + d))) (by omega) ?_
    · exact this
    · have ha := o_ha (x := 2 * x_or n (x_st n m + t) + d) hh
      rw [hlen] at ha
      have e : P ++ ((x_sl n m).take (t + 1)).map (fun S => 2 * S + d) = P ++ ((x_sl n m).take t).map (fun S => 2 * S + d) ++ [2 * x_or n (x_st n m + t) + d] := by
        rw [List.take_add_one, x_slg (show n ≤ 12 by omega) (show t < x_st n (m + 1) - x_st n m by omega), List.map_append, List.append_assoc]; rfl
      rw [e]; exact ha
/-- build -/
theorem c_build {g0 g_t : Nat → Int32} (hn : n ≤ 11) (hl : 2 ^ (n + 2) ≤ l_o) (hl2 : l_o ≤ 8192) (hg0 : ∀ i, i < 2 ^ n → g0 (2 ^ n + i) = nI (x_or n i)) (ht0 : ∀ j, j ≤ n + 1 → g_t (14 * n + j) = nI (x_st n j)) (hz0 : g_t (14 * n + (n + 2)) = 0)
    (h : ∀ g t, (∀ i, i < 2 ^ (n + 1) → g (2 ^ (n + 1) + i) = nI (x_or (n + 1) i)) → (∀ i, i < 2 ^ (n + 1) → g i = g0 i) → (∀ j, j ≤ n + 2 → t (14 * (n + 1) + j) = nI (x_st (n + 1) j)) → (∀ i, i < 14 * (n + 1) ∨ 14 * (n + 1) + (n + 2) < i → t i = g_t i) → post q_o l_o o_r g t) : w184_wp post (nI (n + 1)) q_o l_o o_r g0 g_t := by
  have hp : 2 ^ n ≤ 2048 := Nat.pow_le_pow_right (by decide) hn
  have hp0 : 0 < 2 ^ n := Nat.two_pow_pos n
  have hp1 : 2 ^ (n + 1) = 2 ^ n * 2 := Nat.pow_succ 2 n
  have hp2 : 2 ^ (n + 2) = 2 ^ n * 2 * 2 := by rw [Nat.pow_succ, Nat.pow_succ]
  have n12 : n ≤ 12 := by omega
  have hst := fun j => x_stl (m := n) (j := j) n12
  have hpl : ∀ m, m ≤ n + 2 → (x_pre n m).length ≤ 2 ^ (n + 1) := fun m hm => by
    rw [x_bst hn m hm]; exact x_stl (by omega)
  have main : ∀ (u m : Nat) (g t : Nat → Int32), m + u = n + 2 → o_h n g0 g (x_pre n m) → (∀ j, j < m → t (14 * (n + 1) + j) = nI (x_st (n + 1) j)) → (∀ i, i < 14 * (n + 1) ∨ 14 * (n + 1) + (n + 2) < i → t i = g_t i) → w184_L13 post (u + 1) (nI (n + 1)) (nI (2 ^ n)) (nI (2 ^ (n + 1) + (x_pre n m).length)) (nI m) q_o l_o o_r g t := by
    intro u
    induction u with
    | zero =>
      intro m g t hm hh ht1 ht2
      have : m = n + 2 := by omega
      subst this
      unfold w184_L13
      refine ⟨fun _ z8 e8 => ?_, fun z => absurd (nI_lt (show n + 1 < n + 2 by omega) (by omega)) z⟩
      rw [b_sh (show n + 1 < 31 by omega)] at e8
      have e : nI (n + 1) * 14 + nI (n + 1) + 1 = nI (14 * (n + 1) + (n + 2)) := by
        rw [show (14 : Int32) = nI 14 from rfl, pk_mul, nI_add, nI_1]; congr 1; omega
      rw [e, nI_clamp (show 14 * (n + 1) + (n + 2) < 2 ^ 31 by omega), e8]
      refine ⟨b_in (by omega) (by omega), h _ _ (fun i hi => ?_) hh.2 (fun j hj => ?_) (fun i hi => by rw [pk_un (by omega)]; exact ht2 i hi)⟩
      · have hx := (x_orl (m := n + 1) (by omega) hi).2
        rw [← x_bld hn] at hx
        exact hh.1 i _ hx
      · by_cases z : j = n + 2
        · rw [z, pk_us, x_stn (by omega) (by omega)]
        · rw [pk_un (by omega)]; exact ht1 j (by omega)
    | succ u ih =>
      intro m g t hm hh ht1 ht2
      unfold w184_L13
      refine ⟨fun z => absurd z (nI_nlt (by omega) (by omega)), fun _ z9 e9 => ?_⟩
      rw [b_sh (show n + 1 < 31 by omega), pk_sub (by omega), show 2 ^ (n + 1) + (x_pre n m).length - 2 ^ (n + 1) = (x_pre n m).length by omega] at e9
      have e : nI (n + 1) * 14 + nI m = nI (14 * (n + 1) + m) := by
        rw [show (14 : Int32) = nI 14 from rfl, pk_mul, nI_add]; congr 1; omega
      rw [e, nI_clamp (show 14 * (n + 1) + m < 2 ^ 31 by omega), e9, x_bst hn m (by omega)]
      refine ⟨b_in (by omega) (by omega), 3, ?_⟩
      generalize hT : upd t (14 * (n + 1) + m) (nI (x_st (n + 1) m)) = T
      have hT1 : ∀ j, j < m + 1 → T (14 * (n + 1) + j) = nI (x_st (n + 1) j) := fun j hj => by
        rw [← hT]
        by_cases z : j = m
        · rw [z, pk_us]
        · rw [pk_un (by omega)]; exact ht1 j (by omega)
      have hT2 : ∀ i, i < 14 * (n + 1) ∨ 14 * (n + 1) + (n + 2) < i → T i = g_t i := fun i hi => by rw [← hT, pk_un (by omega)]; exact ht2 i hi
      have hTz : T (14 * n + (n + 2)) = 0 := by rw [hT2 _ (by omega)]; exact hz0
      have hTn : ∀ j, j ≤ n + 1 → T (14 * n + j) = nI (x_st n j) := fun j hj => by rw [hT2 _ (by omega)]; exact ht0 j hj
      have hnext : ∀ g', o_h n g0 g' (x_pre n (m + 1)) → w184_L13 post (u + 1) (nI (n + 1)) (nI (2 ^ n)) (nI (2 ^ (n + 1) + (x_pre n (m + 1)).length)) (nI (m + 1)) q_o l_o o_r g' T := fun g' hg' => ih (m + 1) g' T (by omega) hg' hT1 hT2
      have lenm : ∀ k, k ≤ n + 1 → (x_sl n k).length = x_st n (k + 1) - x_st n k := fun k _ => x_sll n12
      have hlen1 : (x_pre n (m + 1)).length ≤ 2 ^ (n + 1) := hpl (m + 1) (by omega)
      have hlen2 : (x_pre n (m + 1)).length = (x_pre n m).length + ((x_b1 n m).length + (x_b0 n m).length) := by
        show (x_pre n m ++ (x_b1 n m ++ x_b0 n m)).length = _
        rw [List.length_append, List.length_append]
      have hb0 : (x_b0 n m).length = x_st n (m + 1) - x_st n m := by unfold x_b0; rw [List.length_map]; exact x_sll n12
      have e1 : nI (n + 1) - 1 = nI n := nI_pred n
      -- the sets without element 0
      have half0 : ∀ g', o_h n g0 g' (x_pre n m ++ x_b1 n m) → w184_L39 (w184_L13 post (u + 1)) post 2 (nI (n + 1)) (nI (2 ^ n)) (nI (2 ^ (n + 1) + (x_pre n m ++ x_b1 n m).length)) (nI m) 0 q_o l_o o_r g' T := by
        intro g' hg'
        unfold w184_L39
        refine ⟨fun z => absurd z (by decide), fun _ => ?_⟩
        rw [Int32.sub_zero, e1]
        refine c_max (x := 0) (y := m) (by omega) (by omega) ?_
        rw [show max 0 m = m by omega]
        intro z7 e7
        have e7' : z7 = nI (14 * n + m) := by rw [e7, show (14 : Int32) = nI 14 from rfl, pk_mul, nI_add]; congr 1; omega
        rw [e7', nI_1, nI_clamp (show 14 * n + m + 1 < 2 ^ 31 by omega)]
        refine ⟨fun _ => ?_, fun z => absurd (nI_pos' (by omega)) z⟩
        -- so many as there are: m at most n, or none
        by_cases hmn : m ≤ n
        · refine ⟨b_in (by omega) (by omega), ?_⟩
          unfold w184_L82
          rw [nI_clamp (show 14 * n + m < 2 ^ 31 by omega), show 14 * n + m + 1 = 14 * n + (m + 1) by omega, hTn (m + 1) (by omega), hTn m (by omega)]
          refine ⟨b_in (by omega) (by omega), fun z5 e5 => ⟨x_st n (m + 1) - x_st n m + 1, ?_⟩⟩
          rw [e5]
          have := c_b93 (q_o := q_o) (l_o := l_o) (o_r := o_r) (post := post) (K13 := w184_L13 post (u + 1)) (K39 := w184_L39 (w184_L13 post (u + 1)) post 1) (m := m) (d := 0) (g0 := g0) (g_t := T) (x1 := nI (n + 1)) (x4 := nI m) (x6 := nI (14 * n + m)) (P := x_pre n m ++ x_b1 n m) hn (by omega) hl hl2 hg0 (by rw [List.length_append]; omega) (fun g'' hg'' => ?_) (x_st n (m + 1) - x_st n m) 0 g' (by omega) (by rw [List.take_zero, List.map_nil, List.append_nil]; exact hg')
          · exact this
          · unfold w184_L39
            refine ⟨fun _ z6 e6 => ?_, fun z => absurd (by decide) z⟩
            rw [e6, nI_1]
            have e0 : x_pre n m ++ x_b1 n m ++ (x_sl n m).map (fun S => 2 * S + 0) = x_pre n (m + 1) := by
              show _ = x_pre n m ++ (x_b1 n m ++ x_b0 n m)
              rw [List.append_assoc]; rfl
            rw [e0] at hg'' ⊢
            exact hnext g'' hg''
        · -- m = n + 1: there are none
          have hm1 : m = n + 1 := by omega
          subst hm1
          refine ⟨b_in (by omega) (by omega), ?_⟩
          unfold w184_L82
          rw [nI_clamp (show 14 * n + (n + 1) < 2 ^ 31 by omega), hTn (n + 1) (by omega), show 14 * n + (n + 1) + 1 = 14 * n + (n + 2) by omega, hTz]
          refine ⟨b_in (by omega) (by omega), fun z5 e5 => ⟨1, ?_⟩⟩
          rw [e5]
          unfold w184_L93
          refine ⟨fun _ z1 e1' => ?_, fun z => absurd (nI_pos' (by have := hst (n + 1); omega)) z⟩
          rw [e1']
          unfold w184_L39
          refine ⟨fun _ z6 e6 => ?_, fun z => absurd (by decide) z⟩
          rw [e6, nI_1]
          have hsl0 : x_sl n (n + 1) = [] := by
            have : (x_sl n (n + 1)).length = 0 := by rw [x_sll n12, x_stn n12 (by omega), x_stn n12 (by omega)]; omega
            exact List.eq_nil_of_length_eq_zero this
          have e0 : x_pre n (n + 1 + 1) = x_pre n (n + 1) ++ x_b1 n (n + 1) := by
            show x_pre n (n + 1) ++ (x_b1 n (n + 1) ++ x_b0 n (n + 1)) = _
            unfold x_b0
            rw [hsl0, List.map_nil, List.append_nil]
          have := hnext g' (by rw [e0]; exact hg')
          rw [e0] at this
          exact this
      -- the sets with element 0
      unfold w184_L39
      refine ⟨fun z => absurd z (by decide), fun _ => ?_⟩
      rw [e1]
      by_cases hm0 : m = 0
      · subst hm0
        unfold w185_wp w185_L10
        refine ⟨fun z => absurd z (by decide), fun _ z7 e7 => ?_⟩
        have e7' : z7 = nI (14 * n) := by rw [e7, show (14 : Int32) = nI 14 from rfl, pk_mul, Int32.add_zero, Nat.mul_comm]
        rw [e7']
        refine ⟨fun z => absurd z (by decide), fun _ => ?_⟩
        unfold w184_L82
        rw [nI_clamp (show 14 * n < 2 ^ 31 by omega)]
        have ht00 := hTn 0 (by omega)
        rw [Nat.add_zero, x_st0] at ht00
        rw [ht00]
        refine ⟨b_in (by omega) (by omega), fun z5 e5 => ⟨1, ?_⟩⟩
        rw [e5]
        unfold w184_L93
        refine ⟨fun _ z1 e1' => ?_, fun z => absurd (by rw [nI_0]; exact Int32.le_refl 0) z⟩
        rw [e1', show (1 : Int32) + -1 = 0 from by decide]
        have := half0 g (by show o_h n g0 g (x_pre n 0 ++ x_b1 n 0); exact hh)
        rw [x_st0]
        exact this
      · obtain ⟨k, rfl⟩ : ∃ k, m = k + 1 := ⟨m - 1, by omega⟩
        rw [nI_pred]
        refine c_max (x := 0) (y := k) (by omega) (by omega) ?_
        rw [show max 0 k = k by omega]
        intro z7 e7
        have e7' : z7 = nI (14 * n + k) := by rw [e7, show (14 : Int32) = nI 14 from rfl, pk_mul, nI_add]; congr 1; omega
        rw [e7', nI_1 (14 * n + k), nI_clamp (show 14 * n + k + 1 < 2 ^ 31 by omega)]
        refine ⟨fun _ => ⟨b_in (by omega) (by omega), ?_⟩, fun z => absurd (show nI 1 ≤ nI (k + 1) from nI_le (by omega) (by omega)) z⟩
        unfold w184_L82
        rw [nI_clamp (show 14 * n + k < 2 ^ 31 by omega), show 14 * n + k + 1 = 14 * n + (k + 1) by omega, hTn (k + 1) (by omega), hTn k (by omega)]
        refine ⟨b_in (by omega) (by omega), fun z5 e5 => ⟨x_st n (k + 1) - x_st n k + 1, ?_⟩⟩
        rw [e5]
        have hb1 : (x_b1 n (k + 1)).length = x_st n (k + 1) - x_st n k := by unfold x_b1; rw [if_neg (by omega), List.length_map, Nat.add_sub_cancel]; exact x_sll n12
        have := c_b93 (q_o := q_o) (l_o := l_o) (o_r := o_r) (post := post) (K13 := w184_L13 post (u + 1)) (K39 := w184_L39 (w184_L13 post (u + 1)) post 2) (m := k) (d := 1) (g0 := g0) (g_t := T) (x1 := nI (n + 1)) (x4 := nI (k + 1)) (x6 := nI (14 * n + k)) (P := x_pre n (k + 1)) hn (by omega) hl hl2 hg0 (by omega) (fun g'' hg'' => ?_) (x_st n (k + 1) - x_st n k) 0 g (by omega) (by rw [List.take_zero, List.map_nil, List.append_nil]; exact hh)
        · rw [← x_bst hn (k + 1) (by omega)]
          exact this
        · have e0 : (x_sl n k).map (fun S => 2 * S + 1) = x_b1 n (k + 1) := by unfold x_b1; rw [if_neg (by omega), Nat.add_sub_cancel]
          rw [e0] at hg'' ⊢
          have := half0 g'' hg''
          exact this
  unfold w184_wp
  intro z10 e10 z11 e11
  rw [nI_pred, b_sh (show n < 31 by omega)] at e10
  rw [b_sh (show n + 1 < 31 by omega)] at e11
  rw [e10, e11]
  refine ⟨n + 2 + 1, ?_⟩
  have := main (n + 2) 0 g0 g_t (by omega) ⟨fun j x hx => absurd hx (by simp [x_pre]), fun _ _ => rfl⟩ (fun j hj => by omega) (fun _ _ => rfl)
  rw [nI_0] at this
  exact this
/-- reach: so long then -/
def o_ln (l m : Nat) : Nat := if 2 ^ (m + 1) ≤ l then l else 2 ^ (m + 1)
theorem c_reach {g_o g_t : Nat → Int32} {q m mc ms : Nat} (ho : o_Ok l_o o_r g_o g_t q) (hm : m ≤ 12) (hmc : ¬ 2 ^ (m + 1) ≤ l_o → 1 ≤ mc) (hms : ¬ 2 ^ (m + 1) ≤ l_o → 2 ^ (m + 1) ≤ ms)
    (h : ∀ q' o' g t, o_Ok (o_ln l_o m) o' g t (max q m) → post q' (o_ln l_o m) o' g t) : w181_wp mc ms post (nI m) q_o l_o o_r g_o g_t := by
  have e2 : (2 : Int32) <<< (nI m &&& 31) = nI (2 ^ (m + 1)) := by
    have := pk_shlN (n := 2) (nI m &&& 31) m (b_sl m (by omega)) (by have : 2 ^ m ≤ 4096 := Nat.pow_le_pow_right (by decide) hm; omega)
    rw [Nat.pow_succ, Nat.mul_comm]
    exact this
  have hp : 2 ^ (m + 1) ≤ 2 ^ 13 := Nat.pow_le_pow_right (by decide) (by omega)
  have hl8 := ho.2.2.2.1
  have main : ∀ (u q : Nat) (o' : Int32) (g t : Nat → Int32) (qo l kc ks : Nat), m - q = u → 2 ^ (m + 1) ≤ l → o_Ok l o' g t q → (∀ o' g t, o_Ok l o' g t (max q m) → post qo l o' g t) → w181_L25 mc ms post (u + 1) (nI m) qo l o' g t kc ks := by
    intro u
    induction u with
    | zero =>
      intro q o' g t qo l kc ks hu hl hok hpost
      unfold w181_L25
      rw [hok.2.1]
      refine ⟨fun _ => ?_, fun z => absurd (nI_le (show m ≤ q by omega) (by have := hok.1; omega)) z⟩
      have := hpost (nI q) g t (by rw [show max q m = q by omega, ← hok.2.1]; exact hok)
      exact this
    | succ u ih =>
      intro q o' g t qo l kc ks hu hl hok hpost
      have hq12 : q ≤ 11 := by omega
      unfold w181_L25
      rw [hok.2.1]
      refine ⟨fun z => absurd z (nI_ge (by omega) (by omega)), fun _ => ?_⟩
      rw [nI_1]
      have hpw : 2 ^ (q + 2) ≤ 2 ^ (m + 1) := Nat.pow_le_pow_right (by decide) (by omega)
      refine c_build hq12 (by omega) hok.2.2.2.1 (fun i hi => (hok.2.2.2.2.1 q (Nat.le_refl q)).1 i hi) (fun j hj => (hok.2.2.2.2.1 q (Nat.le_refl q)).2 j hj) (hok.2.2.2.2.2 q hq12) (fun g' t' k1 k2 k3 k4 z7 e7 => ?_)
      rw [e7, nI_1]
      refine ih (q + 1) _ g' t' qo l kc ks (by omega) hl ⟨by omega, rfl, Nat.le_trans hpw hl, hok.2.2.2.1, fun mm hmm => ?_, fun mm hmm => ?_⟩ (fun o'' g'' t'' hh => hpost o'' g'' t'' (by rw [show max q m = max (q + 1) m by omega]; exact hh))
      · by_cases z : mm = q + 1
        · subst z; exact ⟨k1, k3⟩
        · have hpm : 2 ^ (mm + 1) ≤ 2 ^ (q + 1) := Nat.pow_le_pow_right (by decide) (by omega)
          have hpm1 := Nat.pow_succ 2 mm
          refine ⟨fun i hi => ?_, fun j hj => ?_⟩
          · rw [k2 _ (by omega)]; exact (hok.2.2.2.2.1 mm (by omega)).1 i hi
          · rw [k4 _ (by omega)]; exact (hok.2.2.2.2.1 mm (by omega)).2 j hj
      · rw [k4 _ (by omega)]; exact hok.2.2.2.2.2 mm hmm
  unfold w181_wp
  rw [e2]
  refine ⟨fun z => ⟨m - q + 1, ?_⟩, fun z => ?_⟩
  · rw [nI_leI (by omega) (by omega)] at z
    have el : o_ln l_o m = l_o := if_pos z
    refine main (m - q) q o_r g_o g_t q_o l_o 0 0 rfl z ho (fun o' g t hh => ?_)
    have := h q_o o' g t (by rw [el]; exact hh)
    rw [el] at this
    exact this
  · rw [nI_leI (by omega) (by omega)] at z
    have el : o_ln l_o m = 2 ^ (m + 1) := if_neg z
    refine ⟨mc, ms, by omega, by omega, b_copyI (by omega) (by omega) (hmc z) (hms z) (fun nq f hf => ⟨m - q + 1, ?_⟩)⟩
    have hqm : q ≤ m := by
      refine Classical.byContradiction (fun y => z ?_)
      have : 2 ^ (m + 1) ≤ 2 ^ (q + 1) := Nat.pow_le_pow_right (by decide) (by omega)
      have := ho.2.2.1
      omega
    have hpq : 2 ^ (q + 1) ≤ 2 ^ (m + 1) := Nat.pow_le_pow_right (by decide) (by omega)
    refine main (m - q) q o_r f g_t nq (2 ^ (m + 1)) _ _ rfl (Nat.le_refl _) ⟨ho.1, ho.2.1, hpq, hp, fun mm hmm => ⟨fun i hi => ?_, (ho.2.2.2.2.1 mm hmm).2⟩, ho.2.2.2.2.2⟩ (fun o' g t hh => ?_)
    · have hpm : 2 ^ (mm + 1) ≤ 2 ^ (q + 1) := Nat.pow_le_pow_right (by decide) (by omega)
      have hpm1 := Nat.pow_succ 2 mm
      have := ho.2.2.1
      rw [hf _ (by omega)]; exact (ho.2.2.2.2.1 mm hmm).1 i hi
    · have := h nq o' g t (by rw [el]; exact hh)
      rw [el] at this
      exact this
end COB
