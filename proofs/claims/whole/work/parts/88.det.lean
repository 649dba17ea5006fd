/-! PURE: determinants: the wedge of rows 0 .. n - 1; rows changed, swapped, left out; elimination without fractions -/
def x_rl {R : Type} (p : Nat → Nat → R) : Nat → List (Nat → R)
  | 0 => []
  | n + 1 => p n :: x_rl p n
def x_W {R : Type} [Lean.Grind.CommRing R] (p : Nat → Nat → R) (n : Nat) : Nat → R := x_wd (x_rl p n)
theorem x_Ws {R : Type} [Lean.Grind.CommRing R] (p : Nat → Nat → R) (n : Nat) : x_W p (n + 1) = x_w (p n) (x_W p n) := rfl
theorem x_rlm {R : Type} {p : Nat → Nat → R} {r : Nat → R} : ∀ {n : Nat}, r ∈ x_rl p n → ∃ i, i < n ∧ r = p i
  | 0, h => absurd h (by simp [x_rl])
  | n + 1, h => by
    rcases List.mem_cons.mp h with h | h
    · exact ⟨n, by omega, h⟩
    · obtain ⟨i, hi, e⟩ := x_rlm h
      exact ⟨i, by omega, e⟩
theorem x_rlm' {R : Type} {p : Nat → Nat → R} : ∀ {n i : Nat}, i < n → p i ∈ x_rl p n
  | 0, i, h => by omega
  | n + 1, i, h => by
    by_cases q : i = n
    · rw [q]; exact List.mem_cons_self
    · exact List.mem_cons_of_mem _ (x_rlm' (by omega))
theorem x_wcf {R : Type} [Lean.Grind.CommRing R] {f g : Nat → R} (r : Nat → R) (S : Nat) (h : ∀ T, f T = g T) : x_w r f S = x_w r g S := by
  rw [show f = g from funext h]
theorem x_Wc {R : Type} [Lean.Grind.CommRing R] {p q : Nat → Nat → R} : ∀ (n : Nat), (∀ i, i < n → ∀ e, e < 12 → p i e = q i e) → ∀ S, x_W p n S = x_W q n S
  | 0, _, _ => rfl
  | n + 1, h, S => by
    rw [x_Ws, x_Ws, x_wcg _ _ (h n (by omega))]
    exact x_wcf _ _ (x_Wc n (fun i hi => h i (by omega)))
def x_rp {R : Type} (p : Nat → Nat → R) (i : Nat) (v : Nat → R) : Nat → Nat → R := fun j => if j = i then v else p j
theorem x_rpn {R : Type} {p : Nat → Nat → R} {i j : Nat} {v : Nat → R} (h : j ≠ i) : x_rp p i v j = p j := if_neg h
theorem x_rps {R : Type} {p : Nat → Nat → R} {i : Nat} {v : Nat → R} : x_rp p i v i = v := if_pos rfl
theorem x_Wl {R : Type} [Lean.Grind.CommRing R] (p : Nat → Nat → R) (i : Nat) (a b : R) (u v : Nat → R) : ∀ (n : Nat), i < n → ∀ S, x_W (x_rp p i (fun e => a * u e + b * v e)) n S = a * x_W (x_rp p i u) n S + b * x_W (x_rp p i v) n S
  | 0, h, _ => by omega
  | n + 1, h, S => by
    rw [x_Ws, x_Ws, x_Ws]
    by_cases q : n = i
    · subst q
      rw [x_rps, x_rps, x_rps, x_wlin]
      have e1 : ∀ w : Nat → R, ∀ T, x_W (x_rp p n w) n T = x_W p n T := fun w T => x_Wc n (fun j hj e _ => by rw [x_rpn (by omega)]) T
      rw [x_wcf u S (e1 _), x_wcf v S (e1 _), x_wcf u S (e1 u), x_wcf v S (e1 v)]
    · rw [x_rpn q, x_rpn q, x_rpn q, ← x_wlinf]
      exact x_wcf _ _ (x_Wl p i a b u v n (by omega))
theorem x_Wa {R : Type} [Lean.Grind.CommRing R] {p : Nat → Nat → R} {i j : Nat} (h : i < j) (he : ∀ e, e < 12 → p i e = p j e) : ∀ (n : Nat), j < n → ∀ S, x_W p n S = 0
  | 0, h, _ => by omega
  | n + 1, hj, S => by
    rw [x_Ws]
    by_cases q : n = j
    · subst q
      rw [← x_wcg _ S he]
      exact x_wd0 _ S (x_rlm' h)
    · exact x_wz _ _ (x_Wa h he n (by omega)) S
theorem x_Wae {R : Type} [Lean.Grind.CommRing R] {p : Nat → Nat → R} {i j n : Nat} (h : i ≠ j) (hi : i < n) (hj : j < n) (he : ∀ e, e < 12 → p i e = p j e) (S : Nat) : x_W p n S = 0 := by
  rcases Nat.lt_or_gt_of_ne h with q | q
  · exact x_Wa q he n hj S
  · exact x_Wa q (fun e h2 => (he e h2).symm) n hi S
/-- a row times a, with another one times b -/
theorem x_Wo {R : Type} [Lean.Grind.CommRing R] {p q : Nat → Nat → R} {i j n : Nat} (a b : R) (h : i ≠ j) (hi : i < n) (hj : j < n) (h1 : ∀ e, e < 12 → q i e = a * p i e + b * p j e) (h2 : ∀ k, k < n → k ≠ i → ∀ e, e < 12 → q k e = p k e) (S : Nat) : x_W q n S = a * x_W p n S := by
  have e1 : x_W q n S = x_W (x_rp p i (fun e => a * p i e + b * p j e)) n S := x_Wc n (fun k hk e he => by
    by_cases z : k = i
    · rw [z, x_rps, h1 e he]
    · rw [x_rpn z, h2 k hk z e he]) S
  have e2 : x_W (x_rp p i (p i)) n S = x_W p n S := x_Wc n (fun k hk e he => by
    by_cases z : k = i
    · rw [z, x_rps]
    · rw [x_rpn z]) S
  have e3 : x_W (x_rp p i (p j)) n S = 0 := x_Wae h hi hj (fun e he => by rw [x_rps, x_rpn (fun z => h z.symm)]) S
  rw [e1, x_Wl _ _ _ _ _ _ n hi, e2, e3]
  grind
/-- two rows change places -/
theorem x_Wsw {R : Type} [Lean.Grind.CommRing R] {p q : Nat → Nat → R} {i j n : Nat} (h : i ≠ j) (hi : i < n) (hj : j < n) (h1 : ∀ e, e < 12 → q i e = p j e) (h2 : ∀ e, e < 12 → q j e = p i e) (h3 : ∀ k, k < n → k ≠ i → k ≠ j → ∀ e, e < 12 → q k e = p k e) (S : Nat) : x_W q n S = - x_W p n S := by
  -- rows i, j of a: both are the sum of the two
  have key : ∀ (u v : Nat → R), x_W (x_rp (x_rp p i u) j v) n S = - x_W (x_rp (x_rp p i v) j u) n S := by
    intro u v
    have hz : ∀ w : Nat → R, x_W (x_rp (x_rp p i w) j w) n S = 0 := fun w => x_Wae h hi hj (fun e _ => by rw [x_rpn h, x_rps, x_rps]) S
    have sw : ∀ (a b : Nat → R) S, x_W (x_rp (x_rp p i a) j b) n S = x_W (x_rp (x_rp p j b) i a) n S := fun a b S => x_Wc n (fun k hk e he => by
      by_cases z : k = i
      · subst z; rw [x_rpn h, x_rps, x_rps]
      · by_cases z2 : k = j
        · subst z2; rw [x_rps, x_rpn z, x_rps]
        · rw [x_rpn z2, x_rpn z, x_rpn z, x_rpn z2]) S
    have h0 := hz (fun e => 1 * u e + 1 * v e)
    rw [x_Wl _ j 1 1 u v n hj, sw, sw, x_Wl _ i 1 1 u v n hi, x_Wl _ i 1 1 u v n hi, ← sw, ← sw, ← sw, ← sw, hz u, hz v] at h0
    grind
  have e1 : x_W q n S = x_W (x_rp (x_rp p i (p j)) j (p i)) n S := x_Wc n (fun k hk e he => by
    by_cases z : k = j
    · subst z; rw [x_rps, h2 e he]
    · by_cases z2 : k = i
      · subst z2; rw [x_rpn z, x_rps, h1 e he]
      · rw [x_rpn z, x_rpn z2, h3 k hk z2 z e he]) S
  have e2 : x_W (x_rp (x_rp p i (p i)) j (p j)) n S = x_W p n S := x_Wc n (fun k hk e he => by
    by_cases z : k = j
    · subst z; rw [x_rps]
    · by_cases z2 : k = i
      · subst z2; rw [x_rpn z, x_rps]
      · rw [x_rpn z, x_rpn z2]) S
  rw [e1, key, e2]
/-- rows that are all 0 in a place -/
theorem x_Wv {R : Type} [Lean.Grind.CommRing R] {p : Nat → Nat → R} {c : Nat} : ∀ (n : Nat), (∀ i, i < n → p i c = 0) → ∀ S, S.testBit c = true → x_W p n S = 0
  | 0, _, S, h => by
    show (if S = 0 then (1 : R) else 0) = 0
    rw [if_neg (fun z => by rw [z, Nat.zero_testBit] at h; exact Bool.noConfusion h)]
  | n + 1, hp, S, h => by
    rw [x_Ws]
    refine x_sm0 12 (fun e he => ?_)
    by_cases q : S.testBit e = true
    · rw [if_pos q]
      by_cases z : e = c
      · rw [z, hp n (by omega)]; grind
      · rw [x_Wv n (fun i hi => hp i (by omega)) (x_t S e) (by rw [x_tbn (fun q => z q.symm), h])]; grind
    · rw [if_neg q]
/-- row i left out -/
def x_sk {R : Type} (p : Nat → Nat → R) (i : Nat) : Nat → Nat → R := fun j => if j < i then p j else p (j + 1)
/-- a place in which one row alone is not 0 -/
theorem x_Wx {R : Type} [Lean.Grind.CommRing R] {p : Nat → Nat → R} {c i : Nat} (hc : c < 12) : ∀ (n : Nat), i < n + 1 → (∀ j, j < n + 1 → j ≠ i → p j c = 0) → ∀ S, S.testBit c = true → x_W p (n + 1) S = x_s R (decide ((n - i) % 2 = 1)) * x_s R (x_od S c) * p i c * x_W (x_sk p i) n (x_t S c) := by
  intro n
  induction n with
  | zero =>
    intro hi hp S hS
    have : i = 0 := by omega
    subst this
    rw [x_Ws]
    unfold x_w
    rw [x_sm1 (k := c) 12 hc (fun e he hn => ?_)]
    · rw [if_pos hS, decide_eq_false (by decide)]
      show x_s R (x_od S c) * p 0 c * x_W p 0 (x_t S c) = 1 * x_s R (x_od S c) * p 0 c * x_W p 0 (x_t S c)
      grind
    · by_cases q : S.testBit e = true
      · rw [if_pos q, x_Wv 0 (fun i hi => by omega) (x_t S e) (by rw [x_tbn (fun q => hn q.symm), hS])]; grind
      · rw [if_neg q]
  | succ n ih =>
    intro hi hp S hS
    by_cases z : i = n + 1
    · subst z
      rw [x_Ws]
      unfold x_w
      rw [x_sm1 (k := c) 12 hc (fun e he hn => ?_)]
      · rw [if_pos hS, decide_eq_false (show ¬ (n + 1 - (n + 1)) % 2 = 1 by omega)]
        have : x_W (x_sk p (n + 1)) (n + 1) (x_t S c) = x_W p (n + 1) (x_t S c) := x_Wc (n + 1) (fun j hj e he => by unfold x_sk; rw [if_pos hj]) _
        rw [this]
        show _ = 1 * x_s R (x_od S c) * _ * _
        grind
      · by_cases q : S.testBit e = true
        · rw [if_pos q, x_Wv (n + 1) (fun j hj => hp j (by omega) (by omega)) (x_t S e) (by rw [x_tbn (fun q => hn q.symm), hS])]; grind
        · rw [if_neg q]
    · rw [x_Ws p (n + 1), x_Ws (x_sk p i) n]
      have hs : x_sk p i n = p (n + 1) := by unfold x_sk; rw [if_neg (by omega)]
      rw [hs]
      unfold x_w
      rw [← x_smm]
      refine x_smc 12 (fun e he => ?_)
      by_cases zc : e = c
      · subst zc
        rw [if_pos hS, hp (n + 1) (by omega) (fun q => z q.symm), x_tbs, hS, if_neg (by simp)]; grind
      · rw [x_tbn zc]
        by_cases q : S.testBit e = true
        · rw [if_pos q, if_pos q, ih (by omega) (fun j hj => hp j (by omega)) (x_t S e) (by rw [x_tbn (fun q => zc q.symm), hS]), x_odt c he, x_odt e hc, x_tc S e c, x_sx, x_sx, x_slt (fun q : c = e => zc q.symm)]
          have : x_s R (decide ((n + 1 - i) % 2 = 1)) = - x_s R (decide ((n - i) % 2 = 1)) := by
            by_cases a : (n - i) % 2 = 1
            · rw [decide_eq_true a, decide_eq_false (show ¬ (n + 1 - i) % 2 = 1 by omega)]; show (1 : R) = - -1; grind
            · rw [decide_eq_false a, decide_eq_true (show (n + 1 - i) % 2 = 1 by omega)]; show (-1 : R) = - 1; grind
          rw [this]
          grind
        · rw [if_neg q, if_neg q]; grind
/-- places named anew: k rising -/
theorem x_smt {R : Type} [Lean.Grind.CommRing R] {F : Nat → R} {S c : Nat} (hc : c < 12) (h : S.testBit c = false) : x_sm 12 (fun e => if (x_t S c).testBit e = true then F e else 0) = x_sm 12 (fun e => if S.testBit e = true then F e else 0) + F c := by
  have e1 : x_sm 12 (fun e => if (x_t S c).testBit e = true then F e else 0) = x_sm 12 (fun e => (if S.testBit e = true then F e else 0) + (if e = c then F e else 0)) := x_smc 12 (fun e he => by
    by_cases z : e = c
    · subst z; rw [x_tbs, h, if_pos (by rfl), if_neg (by simp), if_pos rfl]; grind
    · rw [x_tbn z, if_neg z]; grind)
  rw [e1, x_sma, x_sm1 (k := c) 12 hc (fun i hi hn => if_neg hn), if_pos rfl]
theorem x_smsd {R : Type} [Lean.Grind.CommRing R] {F : Nat → R} {k : Nat → Nat} {S : Nat} : ∀ (n : Nat), x_up n k → x_sm 12 (fun e => if (x_sd n k S).testBit e = true then F e else 0) = x_sm n (fun j => if S.testBit j = true then F (k j) else 0)
  | 0, _ => x_sm0 12 (fun e _ => by show (if Nat.testBit 0 e = true then F e else 0) = 0; rw [Nat.zero_testBit, if_neg (by simp)])
  | n + 1, h => by
    have ih := x_smsd (F := F) (k := k) (S := S) n (x_upm h (by omega))
    show x_sm 12 (fun e => if (if S.testBit n = true then x_t (x_sd n k S) (k n) else x_sd n k S).testBit e = true then F e else 0) = x_sm n (fun j => if S.testBit j = true then F (k j) else 0) + (if S.testBit n = true then F (k n) else 0)
    by_cases q : S.testBit n = true
    · simp only [if_pos q]
      rw [x_smt (h.2 n (by omega)) (x_sdo n (fun i hi e => by have := h.1 i n hi (by omega); omega)), ih]
    · simp only [if_neg q]
      rw [ih]; grind
theorem x_smhi {R : Type} [Lean.Grind.CommRing R] {f : Nat → R} {n : Nat} : ∀ (m : Nat), (∀ i, n ≤ i → i < n + m → f i = 0) → x_sm (n + m) f = x_sm n f
  | 0, _ => rfl
  | m + 1, h => by
    show x_sm (n + m) f + f (n + m) = _
    rw [x_smhi m (fun i h1 h2 => h i h1 (by omega)), h (n + m) (by omega) (by omega)]; grind
theorem x_Wk {R : Type} [Lean.Grind.CommRing R] {p : Nat → Nat → R} {k : Nat → Nat} {n : Nat} (hn : n ≤ 12) (hk : x_up n k) : ∀ (m S : Nat), S < 2 ^ n → x_W p m (x_sd n k S) = x_W (fun i j => p i (k j)) m S
  | 0, S, hS => by
    show (if x_sd n k S = 0 then (1 : R) else 0) = (if S = 0 then 1 else 0)
    by_cases q : S = 0
    · rw [if_pos q, if_pos]
      rw [q]
      apply Nat.eq_of_testBit_eq
      intro i
      rw [Nat.zero_testBit]
      by_cases z : ∃ j, j < n ∧ k j = i
      · obtain ⟨j, hj, rfl⟩ := z
        rw [x_sdb n hk j hj, Nat.zero_testBit]
      · exact x_sdo n (fun j hj e => z ⟨j, hj, e⟩)
    · rw [if_neg q, if_neg (fun z => q ?_)]
      apply Nat.eq_of_testBit_eq
      intro i
      rw [Nat.zero_testBit]
      by_cases hi : i < n
      · rw [← x_sdb n hk i hi, z, Nat.zero_testBit]
      · exact x_hi hS (by omega)
  | m + 1, S, hS => by
    rw [x_Ws, x_Ws]
    unfold x_w
    rw [x_smsd n hk]
    have := x_smhi (f := fun e => if S.testBit e = true then x_s R (x_od S e) * p m (k e) * x_W (fun i j => p i (k j)) m (x_t S e) else 0) (n := n) (12 - n) (fun i h1 h2 => by simp only [x_hi hS h1, Bool.false_eq_true, if_false])
    rw [show n + (12 - n) = 12 by omega] at this
    rw [this]
    refine x_smc n (fun j hj => ?_)
    by_cases q : S.testBit j = true
    · rw [if_pos q, if_pos q, x_sdo12 hn hk hS hj, ← x_sdt hk hj, x_Wk hn hk m (x_t S j) (x_tl hS hj)]
    · rw [if_neg q, if_neg q]
