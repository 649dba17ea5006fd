/-! PURE: elimination without fractions: what stands in its table; where it ends -/
theorem x_Tb (c i : Nat) : (2 ^ c - 1).testBit i = decide (i < c) := Nat.testBit_two_pow_sub_one c i
theorem x_Tt (c : Nat) : x_t (2 ^ c - 1) c = 2 ^ (c + 1) - 1 := by
  apply Nat.eq_of_testBit_eq
  intro i
  rw [x_tb, x_Tb, x_Tb]
  rcases Nat.lt_trichotomy i c with h | h | h
  · rw [decide_eq_true h, decide_eq_false (show ¬ c = i by omega), decide_eq_true (show i < c + 1 by omega)]; rfl
  · rw [decide_eq_false (show ¬ i < c by omega), decide_eq_true h.symm, decide_eq_true (show i < c + 1 by omega)]; rfl
  · rw [decide_eq_false (show ¬ i < c by omega), decide_eq_false (show ¬ c = i by omega), decide_eq_false (show ¬ i < c + 1 by omega)]; rfl
theorem x_Tod {c j : Nat} (h : c ≤ j + 1) : x_od (2 ^ c - 1) j = false := x_xs0 12 (fun i _ => by
  rw [x_Tb]
  by_cases q : j < i
  · rw [decide_eq_false (show ¬ i < c by omega), Bool.and_false]
  · rw [decide_eq_false q, Bool.false_and])
/-- what stands in the table at step c -/
def x_mu {R : Type} [Lean.Grind.CommRing R] (p : Nat → Nat → R) (c k j : Nat) : R := x_u (x_w (p k) (x_W p c)) (2 ^ c - 1) j
def x_d {R : Type} [Lean.Grind.CommRing R] (p : Nat → Nat → R) (c : Nat) : R := x_W p c (2 ^ c - 1)
theorem x_d0 {R : Type} [Lean.Grind.CommRing R] (p : Nat → Nat → R) : x_d p 0 = 1 := by
  show (if 2 ^ 0 - 1 = 0 then (1 : R) else 0) = 1
  rw [if_pos (by decide)]
theorem x_mud {R : Type} [Lean.Grind.CommRing R] (p : Nat → Nat → R) (c : Nat) : x_mu p c c c = x_d p (c + 1) := by
  unfold x_mu x_u x_d
  rw [x_Tb, decide_eq_false (Nat.lt_irrefl c), if_neg (by simp), x_Tod (by omega), x_Tt, x_Ws]
  show 1 * _ = _
  grind
theorem x_mu0 {R : Type} [Lean.Grind.CommRing R] (p : Nat → Nat → R) {k j : Nat} (hj : j < 12) : x_mu p 0 k j = p k j := by
  unfold x_mu x_u
  rw [x_Tb, decide_eq_false (Nat.not_lt_zero j), if_neg (by simp), x_Tod (by omega)]
  have e1 : x_t (2 ^ 0 - 1) j = 2 ^ j := by unfold x_t; rw [show 2 ^ 0 - 1 = 0 from rfl, Nat.zero_xor]
  rw [e1]
  unfold x_w
  rw [x_sm1 (k := j) 12 hj (fun e he hn => ?_)]
  · rw [Nat.testBit_two_pow, decide_eq_true rfl, if_pos rfl]
    have e2 : x_t (2 ^ j) j = 0 := by unfold x_t; rw [Nat.xor_self]
    rw [e2]
    have e3 : x_od (2 ^ j) j = false := x_xs0 12 (fun i _ => by
      rw [Nat.testBit_two_pow]
      by_cases q : j < i
      · rw [decide_eq_false (show ¬ j = i by omega), Bool.and_false]
      · rw [decide_eq_false q, Bool.false_and])
    rw [e3]
    show 1 * (1 * p k j * (if (0 : Nat) = 0 then 1 else 0)) = p k j
    rw [if_pos rfl]; grind
  · rw [Nat.testBit_two_pow, decide_eq_false (fun z => hn z.symm), if_neg (by simp)]
theorem x_ud {R : Type} [Lean.Grind.CommRing R] {P : (Nat → R) → Prop} (h : x_cl P) (p : Nat → Nat → R) (c : Nat) (r : Nat → R) (T : Nat) (hp : ∀ i, i < c → P (p i)) : P (fun e => x_W p c T * r e - x_u (x_w r (x_W p c)) T e) := by
  have h1 : P (fun e => x_sm 12 (fun g => (if T.testBit g = true then x_s R (x_od T g) * r g * x_u (x_W p c) (x_t T g) e else 0))) := x_cls h (fun g e => if T.testBit g = true then x_s R (x_od T g) * r g * x_u (x_W p c) (x_t T g) e else 0) 12 (fun g _ => by
    by_cases q : T.testBit g = true
    · refine h.2.2.1 _ _ (fun e _ => ?_) (x_clm h (x_s R (x_od T g) * r g) (x_uin h (x_rl p c) (fun s hs => ?_) (x_t T g)))
      · simp only [if_pos q]; rfl
      · obtain ⟨i, hi, e⟩ := x_rlm hs
        rw [e]; exact hp i hi
    · refine h.2.2.1 _ _ (fun e _ => ?_) h.1
      simp only [if_neg q])
  refine h.2.2.1 _ _ (fun e he => ?_) h1
  rw [x_uw r (x_W p c) T e he]
  grind
/-- a step -/
theorem x_bare {R : Type} [Lean.Grind.CommRing R] (hd : x_dom R) (p : Nat → Nat → R) (c k : Nat) (hc : c < 12) (hn : ¬ x_d p (c + 1) = 0) : ∀ j, j < 12 → x_d p c * x_mu p (c + 1) k j = x_d p (c + 1) * x_mu p c k j - x_mu p c k c * x_mu p c c j := by
  have hZ := x_Zc hd (x_W p (c + 1))
  have hr : ∀ i, i < c + 1 → x_Z (x_W p (c + 1)) (p i) := fun i hi S => x_wd0 _ S (x_rlm' hi)
  have y1 := x_ud hZ p c (p k) (2 ^ c - 1) (fun i hi => hr i (by omega))
  have y2 := x_ud hZ p (c + 1) (p k) (2 ^ (c + 1) - 1) hr
  have y3 : x_Z (x_W p (c + 1)) (x_u (x_W p (c + 1)) (2 ^ c - 1)) := x_uin hZ (x_rl p (c + 1)) (fun s hs => by
    obtain ⟨i, hi, e⟩ := x_rlm hs
    rw [e]; exact hr i hi) (2 ^ c - 1)
  have hv := hZ.2.1 1 (- x_mu p c k c) _ _ (hZ.2.1 (- x_d p (c + 1)) (x_d p c) _ _ y1 y2) y3
  have e1 : ∀ e, 1 * (- x_d p (c + 1) * (x_W p c (2 ^ c - 1) * p k e - x_u (x_w (p k) (x_W p c)) (2 ^ c - 1) e) + x_d p c * (x_W p (c + 1) (2 ^ (c + 1) - 1) * p k e - x_u (x_w (p k) (x_W p (c + 1))) (2 ^ (c + 1) - 1) e)) + - x_mu p c k c * x_u (x_W p (c + 1)) (2 ^ c - 1) e = x_d p (c + 1) * x_mu p c k e - x_mu p c k c * x_mu p c c e - x_d p c * x_mu p (c + 1) k e := by
    intro e
    show 1 * (- x_d p (c + 1) * (x_d p c * p k e - x_mu p c k e) + x_d p c * (x_d p (c + 1) * p k e - x_mu p (c + 1) k e)) + - x_mu p c k c * x_mu p c c e = _
    grind
  have h0 := x_Z3 hd hv hn (fun e he be => ?_)
  · intro j hj
    have := h0 j hj
    rw [e1] at this
    grind
  · rw [e1]
    rw [x_Tb] at be
    have hec : e < c + 1 := by simpa using be
    have z2 : x_mu p (c + 1) k e = 0 := by
      unfold x_mu x_u
      rw [x_Tb, decide_eq_true hec, if_pos rfl]
    rw [z2]
    by_cases q : e = c
    · rw [q, x_mud]; grind
    · have z1 : ∀ i, x_mu p c i e = 0 := fun i => by
        unfold x_mu x_u
        rw [x_Tb, decide_eq_true (show e < c by omega), if_pos rfl]
      rw [z1, z1]; grind
theorem x_w1c {R : Type} [Lean.Grind.CommRing R] (hd : x_dom R) (f : Nat → R) (S : Nat) : x_cl (fun v => x_w v f S = 0) := by
  refine ⟨?_, fun a b u v hu hv => ?_, fun u v he hu => ?_, fun c u hc hu => ?_⟩
  · refine x_sm0 12 (fun e _ => ?_)
    by_cases q : S.testBit e = true
    · rw [if_pos q]; grind
    · rw [if_neg q]
  · have hu : x_w u f S = 0 := hu
    have hv : x_w v f S = 0 := hv
    show x_w (fun e => a * u e + b * v e) f S = 0
    rw [x_wlin, hu, hv]; grind
  · have hu : x_w u f S = 0 := hu
    show x_w v f S = 0
    rw [← x_wcg f S he]; exact hu
  · have h1 : x_w (fun e => c * u e) f S = 0 := hu
    have h2 : x_w (fun e => c * u e) f S = c * x_w u f S := by
      rw [x_wcg (s := fun e => c * u e + 0 * u e) f S (fun e _ => by grind), x_wlin]; grind
    rw [h2] at h1
    exact (hd.1 _ _ h1).resolve_left hc
/-- no pivot: the determinant is 0 -/
theorem x_nopiv {R : Type} [Lean.Grind.CommRing R] (hd : x_dom R) (p : Nat → Nat → R) (c n : Nat) (hc : c < n) (hn : n ≤ 12) (h0 : ¬ x_d p c = 0) (hk : ∀ k, c ≤ k → k < n → x_mu p c k c = 0) : x_d p n = 0 := by
  refine Classical.byContradiction (fun hF => ?_)
  have hw := x_w1c hd (x_W p c) (2 ^ (c + 1) - 1)
  have hy := x_uin hw (x_rl p n) (fun r hr => ?_) (x_t (2 ^ n - 1) c)
  · have hy : x_w (x_u (x_W p n) (x_t (2 ^ n - 1) c)) (x_W p c) (2 ^ (c + 1) - 1) = 0 := hy
    unfold x_w at hy
    rw [x_sm1 (k := c) 12 (by omega) (fun e he hne => ?_)] at hy
    · rw [x_Tb, decide_eq_true (show c < c + 1 by omega), if_pos rfl, ← x_Tt, x_tt] at hy
      have hyc : x_u (x_W p n) (x_t (2 ^ n - 1) c) c = x_s R (x_od (x_t (2 ^ n - 1) c) c) * x_d p n := by
        unfold x_u x_d
        rw [x_tbs, x_Tb, decide_eq_true hc, if_neg (by simp), x_tt]
      rw [hyc] at hy
      have h1 : x_s R (x_od (x_t (2 ^ c - 1) c) c) * (x_s R (x_od (x_t (2 ^ n - 1) c) c) * (x_d p n * x_d p c)) = 0 := by
        show _ * (_ * (x_d p n * x_W p c (2 ^ c - 1))) = 0
        grind
      rcases hd.1 _ _ (x_sne (x_sne h1)) with h | h
      · exact hF h
      · exact h0 h
    · rw [x_Tb]
      by_cases q : e < c + 1
      · rw [decide_eq_true q, if_pos rfl]
        have : x_u (x_W p n) (x_t (2 ^ n - 1) c) e = 0 := by
          unfold x_u
          rw [x_tbn hne, x_Tb, decide_eq_true (show e < n by omega), if_pos rfl]
        rw [this]; grind
      · rw [decide_eq_false q, if_neg (by simp)]
  · obtain ⟨i, hi, e⟩ := x_rlm hr
    rw [e]
    show x_w (p i) (x_W p c) (2 ^ (c + 1) - 1) = 0
    by_cases q : i < c
    · exact x_wd0 _ _ (x_rlm' q)
    · have := hk i (by omega) hi
      unfold x_mu x_u at this
      rw [x_Tb, decide_eq_false (Nat.lt_irrefl c), if_neg (by simp), x_Tt] at this
      exact x_sne this
/-- rows that begin later and later -/
theorem x_tri {R : Type} [Lean.Grind.CommRing R] (p : Nat → Nat → R) (c : Nat) (hc : c < 12) (h : ∀ e, e < c → p c e = 0) : x_d p (c + 1) = p c c * x_d p c := by
  unfold x_d
  rw [x_Ws]
  unfold x_w
  rw [x_sm1 (k := c) 12 hc (fun e he hne => ?_)]
  · rw [x_Tb, decide_eq_true (show c < c + 1 by omega), if_pos rfl, x_Tod (by omega), ← x_Tt, x_tt]
    show 1 * _ * _ = _
    grind
  · rw [x_Tb]
    by_cases q : e < c + 1
    · rw [decide_eq_true q, if_pos rfl, h e (by omega)]; grind
    · rw [decide_eq_false q, if_neg (by simp)]
theorem x_mulow {R : Type} [Lean.Grind.CommRing R] (p : Nat → Nat → R) (c k : Nat) (h : ∀ e, e < c + 1 → p k e = 0) : x_mu p c k c = 0 := by
  unfold x_mu x_u
  rw [x_Tb, decide_eq_false (Nat.lt_irrefl c), if_neg (by simp), x_Tt]
  have : x_w (p k) (x_W p c) (2 ^ (c + 1) - 1) = 0 := x_sm0 12 (fun e _ => by
    rw [x_Tb]
    by_cases q : e < c + 1
    · rw [decide_eq_true q, if_pos rfl, h e q]; grind
    · rw [decide_eq_false q, if_neg (by simp)])
  rw [this]; grind
