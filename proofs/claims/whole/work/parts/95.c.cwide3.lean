/-! PURE, the class: Wide: takeShortCommon, divide -/
def x_fib : Nat → Nat × Nat
  | 0 => (0, 1)
  | n + 1 => ((x_fib n).2, (x_fib n).1 + (x_fib n).2)
theorem x_f99 : 2 ^ 63 < (x_fib 99).1 := by decide +kernel
section CWF
variable {lo mi hi lo1 mi1 hi1 : Int64} {v v1 : Nat}
theorem c_take0 {post : Int32 → Int64 → Int64 → Int64 → Prop} (hv : v < 2 ^ 63) (h : ∀ lo' mi' hi', wd v lo' mi' hi' → post 0 lo' mi' hi') : w317_wp post (nL v) 0 0 lo mi hi := by
  have := c_take (post := post) (a := (v : Int)) (b := 0) (c := 0) (lo := lo) (mi := mi) (hi := hi) (by omega) (by omega) (by decide) (by decide) (by decide) (by decide) (by rw [if_neg (by decide)]; omega) (fun lo' mi' hi' hw => by
    rw [if_neg (by decide)]
    have e : ((0 : Int) * 2 ^ 96 + 0 * 2 ^ 48 + (v : Int)).natAbs = v := by omega
    rw [e] at hw
    exact h _ _ _ hw)
  rw [iL_n]; exact this
theorem c_short {post : Int64 → Int64 → Int64 → Prop} {a b : Nat} (ha : a < 2 ^ 63) (hb : b < 2 ^ 63) (h : ∀ lo' mi' hi', wd (Nat.gcd a b) lo' mi' hi' → post lo' mi' hi') (h0 : 0 < a) : w322_wp post (nL a) (nL b) lo mi hi := by
  unfold w322_wp
  have main : ∀ (t a' b' i : Nat) (x1 x3 : Int64), b' ≤ a' → a' < 2 ^ 63 → 0 < a' → Nat.gcd a' b' = Nat.gcd a b → ¬ ((x_fib (t + 2)).1 ≤ a' ∧ (x_fib (t + 1)).1 ≤ b') → i + t ≤ 100 → w322_L9 post (t + 1) x1 x3 (nL a') (nL b') (nI i) lo mi hi := by
    intro t
    induction t with
    | zero =>
      intro a' b' i x1 x3 h1 h2 h3 h4 h5 h6
      have hb0 : b' = 0 := by
        have e : (x_fib (0 + 2)).1 = 1 ∧ (x_fib (0 + 1)).1 = 1 := ⟨rfl, rfl⟩
        rw [e.1, e.2] at h5; omega
      have h44 : w322_L44 post x1 x3 (nL a') (nL b') (nI i) lo mi hi := by
        unfold w322_L44
        refine c_take0 h2 (fun lo' mi' hi' hw => h _ _ _ ?_)
        rw [hb0, Nat.gcd_zero_right] at h4
        rw [← h4]; exact hw
      refine ⟨fun _ => h44, fun _ => ⟨fun _ => h44, fun z => absurd ((nL_eq (b := 0) (by omega) (by decide)).2 hb0) z⟩⟩
    | succ t ih =>
      intro a' b' i x1 x3 h1 h2 h3 h4 h5 h6
      refine ⟨fun z => absurd z (nI_ge (b := 100) (by omega) (by decide)), fun _ => ⟨fun z => ?_, fun z => ⟨fun k => z ((lg_cmp_eq _ _).2 k), ?_⟩⟩⟩
      · have hb0 := (nL_eq (b := 0) (by omega) (by decide)).1 z
        unfold w322_L44
        refine c_take0 h2 (fun lo' mi' hi' hw => h _ _ _ ?_)
        rw [hb0, Nat.gcd_zero_right] at h4
        rw [← h4]; exact hw
      · have hb0 : b' ≠ 0 := fun k => z ((nL_eq (b := 0) (by omega) (by decide)).2 k)
        intro z4 e4 z5 e5
        rw [e4, e5, nL_modg h2 (by omega), nI_1]
        have hm : a' % b' < b' := Nat.mod_lt _ (by omega)
        refine ih b' (a' % b') (i + 1) x1 x3 (by omega) (by omega) (by omega) ?_ (fun k => h5 ?_) (by omega)
        · rw [← h4, Nat.gcd_comm a' b', Nat.gcd_rec b' a', Nat.gcd_comm]
        · have e1 : (x_fib (t + 1 + 2)).1 = (x_fib (t + 1)).1 + (x_fib (t + 2)).1 := rfl
          have e2 : b' + a' % b' ≤ a' := by
            have := Nat.div_add_mod a' b'
            have hq : 1 ≤ a' / b' := (Nat.le_div_iff_mul_le (by omega)).2 (by omega)
            have : b' * 1 ≤ b' * (a' / b') := Nat.mul_le_mul_left _ hq
            omega
          rw [e1]
          exact ⟨by omega, k.1⟩
  have hf := x_f99
  by_cases q : b ≤ a
  · exact ⟨98 + 1, main 98 a b 0 _ _ q ha h0 rfl (fun k => by have := k.2; rw [show 98 + 1 = 99 from rfl] at this; omega) (by omega)⟩
  · refine ⟨98 + 1 + 1, fun z => absurd z (by decide), fun _ => ⟨fun z => absurd ((nL_eq (b := 0) hb (by decide)).1 z) (by omega), fun z => ⟨fun k => z ((lg_cmp_eq _ _).2 k), ?_⟩⟩⟩
    intro z4 e4 z5 e5
    rw [e4, e5, nL_modg ha hb, Nat.mod_eq_of_lt (by omega)]
    exact main 98 b a 1 _ _ (by omega) hb (by omega) (Nat.gcd_comm b a) (fun k => by have := k.2; rw [show 98 + 1 = 99 from rfl] at this; omega) (by omega)
theorem x_sdiv {P Q D R β u w L' : Nat} (huw : u * w = 2 ^ 143) (hL : L' < u) (hQ : Q < w) : (( β * u + L') * w + Q) / 2 ^ 143 = β ∧ ((β * u + L') * w + Q) % 2 ^ 143 = L' * w + Q := by
  have e : (β * u + L') * w + Q = β * 2 ^ 143 + (L' * w + Q) := by rw [← huw]; grind
  have l : L' * w + Q < 2 ^ 143 := by
    have : (L' + 1) * w ≤ u * w := Nat.mul_le_mul_right w hL
    rw [Nat.add_mul, huw] at this
    omega
  rw [e]
  omega
theorem c_div48 {post : Int64 → Int64 → Int64 → Int64 → Int64 → Int64 → Int64 → Int64 → Int64 → Prop} {V D : Nat} (hD : 0 < D) (hD2 : D < 2 ^ 144) (hw1 : wd D lo1 mi1 hi1) (h : ∀ lo' mi' hi' a b c, wd (V / D) lo' mi' hi' → post lo' mi' hi' lo1 mi1 hi1 a b c) :
    ∀ (t j P L Q R : Nat) (lo mi hi lo2 mi2 hi2 : Int64), j + t = 144 → V = P * 2 ^ t + L → L < 2 ^ t → Q < 2 ^ j → P = Q * D + R → R < D → wd (L * 2 ^ j + Q) lo mi hi → wd R lo2 mi2 hi2 → w330_L48 post (t + 1) (nI j) lo mi hi lo1 mi1 hi1 lo2 mi2 hi2 := by
  intro t
  induction t with
  | zero =>
    intro j P L Q R lo mi hi lo2 mi2 hi2 hj hV hL hQ hP hR hw hw2
    refine ⟨fun _ => h _ _ _ _ _ _ ?_, fun z => absurd (nI_le (a := 144) (by omega) (by omega)) z⟩
    have e : V / D = Q := by
      have e1 : V = Q * D + R := by rw [hV, hP]; omega
      rw [e1, Nat.mul_comm, Nat.mul_add_div hD, Nat.div_eq_of_lt hR, Nat.add_zero]
    have hL0 : L = 0 := by omega
    rw [hL0, Nat.zero_mul, Nat.zero_add] at hw
    rw [e]; exact hw
  | succ t ih =>
    intro j P L Q R lo mi hi lo2 mi2 hi2 hj hV hL hQ hP hR hw hw2
    refine ⟨fun z => absurd z (nI_ge (b := 144) (by omega) (by decide)), fun _ => ?_⟩
    have huw : 2 ^ t * 2 ^ j = 2 ^ 143 := by rw [← Nat.pow_add]; congr 1; omega
    have hdm := Nat.div_add_mod L (2 ^ t)
    have hmt : L % 2 ^ t < 2 ^ t := Nat.mod_lt _ (Nat.two_pow_pos t)
    have hβ : L / 2 ^ t < 2 := Nat.div_lt_of_lt_mul (by rw [Nat.pow_succ] at hL; omega)
    rw [Nat.mul_comm] at hdm
    generalize L / 2 ^ t = β at *
    generalize L % 2 ^ t = L' at *
    have hs := x_sdiv (P := P) (D := D) (R := R) (β := β) huw hmt hQ
    rw [hdm] at hs
    generalize hW : L * 2 ^ j + Q = W at *
    obtain ⟨a, b, c, d⟩ := id hw
    have hW2 : W < 2 ^ 144 := by omega
    have eb : (((hi : Int64) >>> ((47 : Int32).toInt64 &&& 63)) &&& 1).toInt32 = nI β := by
      rw [c, nL_shr (k := 47) (by decide) (by omega), show (1 : Int64) = nL (2 ^ 1 - 1) from rfl, nL_low _ 1 (by decide), show W / 2 ^ 96 / 2 ^ 47 % 2 ^ 1 = β by omega]
      exact Int64.toInt32_ofNat
    rw [eb]
    refine c_twice hw2 (by omega) hβ (fun v2 v3 v4 hr => ?_)
    refine c_twice (bit := 0) hw (by omega) (by decide) (fun v5 v6 v7 hq z8 e8 => ?_)
    have hV' : V = (2 * P + β) * 2 ^ t + L' := by
      rw [hV, ← hdm, Nat.pow_succ]; grind
    have hw' : ∀ Q', Q' = 2 * Q ∨ Q' = 2 * Q + 1 → L' * 2 ^ (j + 1) + Q' = (2 * W + (Q' - 2 * Q)) % 2 ^ 144 := by
      intro Q' hQ'
      have e1 : L' * 2 ^ (j + 1) = 2 * (L' * 2 ^ j) := by rw [Nat.pow_succ, ← Nat.mul_assoc, Nat.mul_comm]
      rw [e1]
      have := hs.2
      generalize L' * 2 ^ j = y at *
      omega
    obtain ⟨a', b', c', d'⟩ := hq
    have hq8 : wd (2 * W % 2 ^ 144) v5 v6 z8 := by
      rw [Nat.add_zero] at a' b' c'
      refine ⟨?_, ?_, ?_, by omega⟩
      · rw [a']; congr 1; omega
      · rw [b']; congr 1; omega
      · rw [e8, c', show (281474976710655 : Int64) = nL (2 ^ 48 - 1) from rfl, nL_low _ 48 (by decide)]; congr 1; omega
    refine c_wcmp hr hw1 ⟨fun z => ?_, fun z => ?_⟩
    · have hlt : 2 * R + β < D := by
        unfold x_cmp at z
        by_cases k : 2 * R + β < D
        · exact k
        · rw [if_neg k] at z
          split at z <;> exact absurd z (by decide)
      intro z1 e1
      rw [e1, nI_1]
      refine ih (j + 1) (2 * P + β) L' (2 * Q) (2 * R + β) _ _ _ _ _ _ (by omega) hV' hmt (by rw [Nat.pow_succ]; omega) (by rw [hP]; grind) hlt ?_ hr
      have := hw' (2 * Q) (Or.inl rfl)
      rw [Nat.sub_self, Nat.add_zero] at this
      rw [this]; exact hq8
    · have hge : D ≤ 2 * R + β := by
        unfold x_cmp at z
        by_cases k : 2 * R + β < D
        · rw [if_pos k] at z; exact absurd (by decide) z
        · omega
      refine c_wsub hr hw1 hge (fun v15 v16 v17 hr' z21 e21 => ?_)
      intro z1 e1
      rw [e1, nI_1]
      refine ih (j + 1) (2 * P + β) L' (2 * Q + 1) (2 * R + β - D) _ _ _ _ _ _ (by omega) hV' hmt (by rw [Nat.pow_succ]; omega) ?_ (by omega) ?_ hr'
      · have e2 : 2 * P + β = 2 * (Q * D) + (2 * R + β) := by rw [hP]; omega
        have e3 : (2 * Q + 1) * D = 2 * (Q * D) + D := by rw [Nat.add_mul, Nat.one_mul, Nat.mul_assoc]
        rw [e2, e3]; omega
      · have := hw' (2 * Q + 1) (Or.inr rfl)
        rw [show 2 * Q + 1 - 2 * Q = 1 by omega] at this
        rw [this]
        obtain ⟨p1, p2, p3, p4⟩ := hq8
        refine ⟨?_, ?_, ?_, by omega⟩
        · rw [e21, p1, show 2 * W % 2 ^ 144 % 2 ^ 48 = W % 2 ^ 47 * 2 ^ 1 by omega, show (1 : Int64) = nL 1 from rfl, nL_ora (by decide)]; congr 1; omega
        · rw [p2]; congr 1; omega
        · rw [p3]; congr 1; omega
theorem c_divide {lo2 mi2 hi2 : Int64} {post : Int64 → Int64 → Int64 → Int64 → Int64 → Int64 → Int64 → Int64 → Int64 → Prop} {V D : Nat} (hD : 0 < D) (hD2 : D < 2 ^ 144) (hV : V < 2 ^ 144) (hw : wd V lo mi hi) (hw1 : wd D lo1 mi1 hi1) (h : ∀ lo' mi' hi' a b c, wd (V / D) lo' mi' hi' → post lo' mi' hi' lo1 mi1 hi1 a b c) : w330_wp post lo mi hi lo1 mi1 hi1 lo2 mi2 hi2 := by
  have h38 : w330_L38 post lo mi hi lo1 mi1 hi1 lo2 mi2 hi2 := by
    unfold w330_L38
    refine c_take0 (v := 0) (by decide) (fun a b c hw2 => ⟨144 + 1, ?_⟩)
    exact c_div48 hD hD2 hw1 h 144 0 0 V 0 0 _ _ _ _ _ _ (by omega) (by omega) hV (by decide) (by omega) hD (by rw [Nat.pow_zero, Nat.mul_one, Nat.add_zero]; exact hw) hw2
  unfold w330_wp
  refine c_wshort hw ⟨fun _ => h38, fun z => ?_⟩
  have z1 : V < 2 ^ 63 := by
    by_cases k : V < 2 ^ 63
    · exact k
    · rw [if_neg k] at z; exact absurd rfl z
  refine c_wshort hw1 ⟨fun _ => h38, fun z => ?_⟩
  have z2 : D < 2 ^ 63 := by
    by_cases k : D < 2 ^ 63
    · exact k
    · rw [if_neg k] at z; exact absurd rfl z
  refine c_wzero hw1 ⟨fun _ => h38, fun z => ?_⟩
  refine c_wlong hw z1 (c_wlong hw1 z2 ⟨fun k => ?_, ?_⟩)
  · have := nL_inj z2 (b := 0) (by decide) k
    omega
  · rw [nL_divg z1 z2]
    have := Nat.div_le_self V D
    exact c_take0 (by omega) (fun a b c hw => h _ _ _ _ _ _ hw)
end CWF
