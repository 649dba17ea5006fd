/-! PURE: sums, sets as numbers, forms (a form gives a value to each set of 12 elements), the wedge with a row, what a form leaves over at a set. Over any ring that commutes -/
def x_sm {R : Type} [Lean.Grind.CommRing R] : Nat → (Nat → R) → R
  | 0, _ => 0
  | n + 1, f => x_sm n f + f n
theorem x_smc {R : Type} [Lean.Grind.CommRing R] {f g : Nat → R} : ∀ (n : Nat), (∀ i, i < n → f i = g i) → x_sm n f = x_sm n g
  | 0, _ => rfl
  | n + 1, h => by
    show x_sm n f + f n = x_sm n g + g n
    rw [x_smc n (fun i hi => h i (by omega)), h n (by omega)]
theorem x_sm0 {R : Type} [Lean.Grind.CommRing R] {f : Nat → R} : ∀ (n : Nat), (∀ i, i < n → f i = 0) → x_sm n f = 0
  | 0, _ => rfl
  | n + 1, h => by
    show x_sm n f + f n = 0
    rw [x_sm0 n (fun i hi => h i (by omega)), h n (by omega)]
    grind
theorem x_sma {R : Type} [Lean.Grind.CommRing R] (f g : Nat → R) : ∀ (n : Nat), x_sm n (fun i => f i + g i) = x_sm n f + x_sm n g
  | 0 => by show (0 : R) = 0 + 0; grind
  | n + 1 => by
    show x_sm n (fun i => f i + g i) + (f n + g n) = (x_sm n f + f n) + (x_sm n g + g n)
    rw [x_sma f g n]
    grind
theorem x_smm {R : Type} [Lean.Grind.CommRing R] (a : R) (f : Nat → R) : ∀ (n : Nat), x_sm n (fun i => a * f i) = a * x_sm n f
  | 0 => by show (0 : R) = a * 0; grind
  | n + 1 => by
    show x_sm n (fun i => a * f i) + a * f n = a * (x_sm n f + f n)
    rw [x_smm a f n]
    grind
theorem x_smn {R : Type} [Lean.Grind.CommRing R] (f : Nat → R) (n : Nat) : x_sm n (fun i => - f i) = - x_sm n f := by
  have := x_smm (-1 : R) f n
  rw [show (fun i => - f i) = (fun i => (-1 : R) * f i) from funext (fun i => by grind), this]
  grind
theorem x_sms {R : Type} [Lean.Grind.CommRing R] (f : Nat → Nat → R) (m : Nat) : ∀ (n : Nat), x_sm n (fun i => x_sm m (fun j => f i j)) = x_sm m (fun j => x_sm n (fun i => f i j))
  | 0 => by
    show (0 : R) = x_sm m (fun _ => 0)
    rw [x_sm0 m (fun _ _ => rfl)]
  | n + 1 => by
    show x_sm n (fun i => x_sm m (fun j => f i j)) + x_sm m (fun j => f n j) = x_sm m (fun j => x_sm n (fun i => f i j) + f n j)
    rw [x_sms f m n, x_sma]
theorem x_sm1 {R : Type} [Lean.Grind.CommRing R] {f : Nat → R} {k : Nat} : ∀ (n : Nat), k < n → (∀ i, i < n → i ≠ k → f i = 0) → x_sm n f = f k
  | 0, h, _ => by omega
  | n + 1, h, h0 => by
    show x_sm n f + f n = f k
    by_cases hk : k = n
    · rw [x_sm0 n (fun i hi => h0 i (by omega) (by omega)), hk]
      grind
    · rw [x_sm1 n (by omega) (fun i hi hn => h0 i (by omega) hn), h0 n (by omega) (fun e => hk e.symm)]
      grind
/-- two places alone -/
theorem x_sm2 {R : Type} [Lean.Grind.CommRing R] {f : Nat → R} {k l : Nat} : ∀ (n : Nat), k < n → l < n → k ≠ l → (∀ i, i < n → i ≠ k → i ≠ l → f i = 0) → x_sm n f = f k + f l := by
  intro n hk hl hkl h0
  have e : x_sm n f = x_sm n (fun i => (if i = k then f i else 0) + (if i = k then 0 else f i)) := x_smc n (fun i _ => by by_cases h : i = k <;> simp only [h, if_true, if_false] <;> grind)
  rw [e, x_sma, x_sm1 n hk (fun i hi h => by rw [if_neg h])]
  have e2 : x_sm n (fun i => if i = k then 0 else f i) = if l = k then 0 else f l := x_sm1 (f := fun i => if i = k then 0 else f i) (k := l) n hl (fun i hi h => by
    by_cases h2 : i = k
    · show (if i = k then 0 else f i) = 0
      rw [if_pos h2]
    · show (if i = k then 0 else f i) = 0
      rw [if_neg h2]
      exact h0 i hi h2 h)
  rw [e2, if_pos rfl, if_neg (fun q => hkl q.symm)]
/-- what turns its sign when the two change places comes to 0 -/
theorem x_smz {R : Type} [Lean.Grind.CommRing R] (f : Nat → Nat → R) (h0 : ∀ i, f i i = 0) (h : ∀ i j, i ≠ j → f i j = - f j i) : ∀ (n : Nat), x_sm n (fun i => x_sm n (fun j => f i j)) = 0
  | 0 => rfl
  | n + 1 => by
    show x_sm n (fun i => x_sm n (fun j => f i j) + f i n) + (x_sm n (fun j => f n j) + f n n) = 0
    rw [x_sma, x_smz f h0 h n, h0 n]
    have : x_sm n (fun j => f n j) = - x_sm n (fun i => f i n) := by
      rw [← x_smn]
      exact x_smc n (fun i hi => h n i (by omega))
    rw [this]
    grind
/-- a set with one element more or less -/
def x_t (S e : Nat) : Nat := S ^^^ 2 ^ e
theorem x_tb (S e i : Nat) : (x_t S e).testBit i = (S.testBit i ^^ decide (e = i)) := by
  unfold x_t
  rw [Nat.testBit_xor, Nat.testBit_two_pow]
theorem x_tbs (S e : Nat) : (x_t S e).testBit e = !S.testBit e := by
  rw [x_tb]; simp
theorem x_tbn {S e i : Nat} (h : i ≠ e) : (x_t S e).testBit i = S.testBit i := by
  rw [x_tb, decide_eq_false (fun q => h q.symm)]; simp
theorem x_tt (S e : Nat) : x_t (x_t S e) e = S := by
  unfold x_t
  rw [Nat.xor_assoc, Nat.xor_self, Nat.xor_zero]
theorem x_tc (S e g : Nat) : x_t (x_t S e) g = x_t (x_t S g) e := by
  unfold x_t
  rw [Nat.xor_assoc, Nat.xor_comm (2 ^ e), ← Nat.xor_assoc]
theorem x_tl {S e n : Nat} (h : S < 2 ^ n) (he : e < n) : x_t S e < 2 ^ n := by
  unfold x_t
  exact Nat.xor_lt_two_pow h (Nat.pow_lt_pow_right (by decide) he)
theorem x_ext {S T : Nat} (hS : S < 2 ^ 12) (hT : T < 2 ^ 12) (h : ∀ i, i < 12 → S.testBit i = T.testBit i) : S = T := by
  apply Nat.eq_of_testBit_eq
  intro i
  by_cases hi : i < 12
  · exact h i hi
  · rw [Nat.testBit_lt_two_pow (Nat.lt_of_lt_of_le hS (Nat.pow_le_pow_right (by decide) (by omega))), Nat.testBit_lt_two_pow (Nat.lt_of_lt_of_le hT (Nat.pow_le_pow_right (by decide) (by omega)))]
/-- whether an odd number of n places holds -/
def x_xs : Nat → (Nat → Bool) → Bool
  | 0, _ => false
  | n + 1, f => x_xs n f ^^ f n
theorem x_xsc {f g : Nat → Bool} : ∀ (n : Nat), (∀ i, i < n → f i = g i) → x_xs n f = x_xs n g
  | 0, _ => rfl
  | n + 1, h => by
    show (x_xs n f ^^ f n) = (x_xs n g ^^ g n)
    rw [x_xsc n (fun i hi => h i (by omega)), h n (by omega)]
theorem x_xsx (f g : Nat → Bool) : ∀ (n : Nat), x_xs n (fun i => f i ^^ g i) = (x_xs n f ^^ x_xs n g)
  | 0 => rfl
  | n + 1 => by
    show (x_xs n (fun i => f i ^^ g i) ^^ (f n ^^ g n)) = ((x_xs n f ^^ f n) ^^ (x_xs n g ^^ g n))
    rw [x_xsx f g n]
    cases x_xs n f <;> cases x_xs n g <;> cases f n <;> cases g n <;> rfl
theorem x_xs0 {f : Nat → Bool} : ∀ (n : Nat), (∀ i, i < n → f i = false) → x_xs n f = false
  | 0, _ => rfl
  | n + 1, h => by
    show (x_xs n f ^^ f n) = false
    rw [x_xs0 n (fun i hi => h i (by omega)), h n (by omega)]
    rfl
theorem x_xs1 {f : Nat → Bool} {k : Nat} : ∀ (n : Nat), k < n → (∀ i, i < n → i ≠ k → f i = false) → x_xs n f = f k
  | 0, h, _ => by omega
  | n + 1, h, h0 => by
    show (x_xs n f ^^ f n) = f k
    by_cases hk : k = n
    · rw [x_xs0 n (fun i hi => h0 i (by omega) (by omega)), hk]
      cases f n <;> rfl
    · rw [x_xs1 n (by omega) (fun i hi hn => h0 i (by omega) hn), h0 n (by omega) (fun e => hk e.symm)]
      cases f k <;> rfl
/-- whether an odd number of a set's elements stand above e -/
def x_od (S e : Nat) : Bool := x_xs 12 (fun i => decide (e < i) && S.testBit i)
theorem x_odt {S g : Nat} (e : Nat) (hg : g < 12) : x_od (x_t S g) e = (x_od S e ^^ decide (e < g)) := by
  unfold x_od
  have : x_xs 12 (fun i => decide (e < i) && (x_t S g).testBit i) = x_xs 12 (fun i => (decide (e < i) && S.testBit i) ^^ (decide (e < i) && decide (g = i))) :=
    x_xsc 12 (fun i _ => by rw [x_tb]; cases decide (e < i) <;> rfl)
  have h2 : x_xs 12 (fun i => decide (e < i) && decide (g = i)) = (decide (e < g) && decide (g = g)) := x_xs1 (f := fun i => decide (e < i) && decide (g = i)) (k := g) 12 hg (fun i _ hn => by
    show (decide (e < i) && decide (g = i)) = false
    rw [decide_eq_false (fun q : g = i => hn q.symm)]
    simp)
  rw [this, x_xsx, h2]
  simp
/-- -1 or 1 -/
def x_s (R : Type) [Lean.Grind.CommRing R] (b : Bool) : R := if b then -1 else 1
theorem x_ss {R : Type} [Lean.Grind.CommRing R] (b : Bool) : x_s R b * x_s R b = 1 := by
  cases b
  · show (1 : R) * 1 = 1; grind
  · show (-1 : R) * -1 = 1; grind
theorem x_sx {R : Type} [Lean.Grind.CommRing R] (b c : Bool) : x_s R (b ^^ c) = x_s R b * x_s R c := by
  cases b <;> cases c
  · show (1 : R) = 1 * 1; grind
  · show (-1 : R) = 1 * -1; grind
  · show (-1 : R) = -1 * 1; grind
  · show (1 : R) = -1 * -1; grind
theorem x_slt {R : Type} [Lean.Grind.CommRing R] {e g : Nat} (h : e ≠ g) : x_s R (decide (e < g)) = - x_s R (decide (g < e)) := by
  by_cases q : e < g
  · rw [decide_eq_true q, decide_eq_false (show ¬ g < e by omega)]; rfl
  · rw [decide_eq_false q, decide_eq_true (show g < e by omega)]
    show (1 : R) = - -1; grind
/-- the wedge with a row: what the greater determinant is by its last row -/
def x_w {R : Type} [Lean.Grind.CommRing R] (r : Nat → R) (f : Nat → R) (S : Nat) : R := x_sm 12 (fun e => if S.testBit e = true then x_s R (x_od S e) * r e * f (x_t S e) else 0)
theorem x_wz {R : Type} [Lean.Grind.CommRing R] (r : Nat → R) (f : Nat → R) (h : ∀ S, f S = 0) (S : Nat) : x_w r f S = 0 := by
  unfold x_w
  refine x_sm0 12 (fun e _ => ?_)
  by_cases q : S.testBit e = true
  · rw [if_pos q, h]; grind
  · rw [if_neg q]
theorem x_wlin {R : Type} [Lean.Grind.CommRing R] (a b : R) (r s : Nat → R) (f : Nat → R) (S : Nat) : x_w (fun e => a * r e + b * s e) f S = a * x_w r f S + b * x_w s f S := by
  unfold x_w
  rw [← x_smm, ← x_smm, ← x_sma]
  refine x_smc 12 (fun e _ => ?_)
  by_cases q : S.testBit e = true
  · simp only [if_pos q]; grind
  · simp only [if_neg q]; grind
theorem x_wlinf {R : Type} [Lean.Grind.CommRing R] (a b : R) (r : Nat → R) (f g : Nat → R) (S : Nat) : x_w r (fun T => a * f T + b * g T) S = a * x_w r f S + b * x_w r g S := by
  unfold x_w
  rw [← x_smm, ← x_smm, ← x_sma]
  refine x_smc 12 (fun e _ => ?_)
  by_cases q : S.testBit e = true
  · simp only [if_pos q]; grind
  · simp only [if_neg q]; grind
theorem x_wcg {R : Type} [Lean.Grind.CommRing R] {r s : Nat → R} (f : Nat → R) (S : Nat) (h : ∀ e, e < 12 → r e = s e) : x_w r f S = x_w s f S := by
  unfold x_w
  exact x_smc 12 (fun e he => by rw [h e he])
/-- both orders in one double sum -/
theorem x_ww {R : Type} [Lean.Grind.CommRing R] (r s : Nat → R) (f : Nat → R) (S : Nat) : x_w r (x_w s f) S = x_sm 12 (fun e => x_sm 12 (fun g => if S.testBit e = true ∧ S.testBit g = true ∧ e ≠ g then x_s R (x_od S e) * x_s R (x_od S g) * x_s R (decide (g < e)) * (r e * s g) * f (x_t (x_t S e) g) else 0)) := by
  unfold x_w
  refine x_smc 12 (fun e he => ?_)
  by_cases q : S.testBit e = true
  · rw [if_pos q, ← x_smm]
    refine x_smc 12 (fun g hg => ?_)
    by_cases hge : g = e
    · subst hge
      rw [x_tbs, q, if_neg (by simp), if_neg (fun h => h.2.2 rfl)]; grind
    · rw [x_tbn hge]
      by_cases q2 : S.testBit g = true
      · rw [if_pos q2, if_pos ⟨q, q2, fun h => hge h.symm⟩, x_odt g he, x_sx]; grind
      · rw [if_neg q2, if_neg (fun h => q2 h.2.1)]; grind
  · rw [if_neg q]
    exact (x_sm0 12 (fun g hg => by rw [if_neg (fun h => q h.1)])).symm
theorem x_wwa {R : Type} [Lean.Grind.CommRing R] (r s : Nat → R) (f : Nat → R) (S : Nat) : x_w r (x_w s f) S = - x_w s (x_w r f) S := by
  rw [x_ww r s, x_ww s r, x_sms, ← x_smn]
  refine x_smc 12 (fun g hg => ?_)
  rw [← x_smn]
  refine x_smc 12 (fun e he => ?_)
  by_cases h : S.testBit e = true ∧ S.testBit g = true ∧ e ≠ g
  · rw [if_pos h, if_pos ⟨h.2.1, h.1, fun q => h.2.2 q.symm⟩, x_tc S e g, x_slt (fun q : g = e => h.2.2 q.symm)]
    grind
  · rw [if_neg h, if_neg (fun q => h ⟨q.2.1, q.1, fun z => q.2.2 z.symm⟩)]
    grind
theorem x_ww0 {R : Type} [Lean.Grind.CommRing R] (r : Nat → R) (f : Nat → R) (S : Nat) : x_w r (x_w r f) S = 0 := by
  rw [x_ww r r]
  refine x_smz (fun e g => if S.testBit e = true ∧ S.testBit g = true ∧ e ≠ g then x_s R (x_od S e) * x_s R (x_od S g) * x_s R (decide (g < e)) * (r e * r g) * f (x_t (x_t S e) g) else 0) (fun e => if_neg (fun h => h.2.2 rfl)) (fun e g heg => ?_) 12
  by_cases h : S.testBit e = true ∧ S.testBit g = true ∧ e ≠ g
  · simp only [if_pos h, if_pos (show S.testBit g = true ∧ S.testBit e = true ∧ g ≠ e from ⟨h.2.1, h.1, fun q => h.2.2 q.symm⟩)]
    rw [x_tc S e g, x_slt (fun q : g = e => h.2.2 q.symm)]
    grind
  · simp only [if_neg h, if_neg (show ¬ (S.testBit g = true ∧ S.testBit e = true ∧ g ≠ e) from fun q => h ⟨q.2.1, q.1, fun z => q.2.2 z.symm⟩)]
    grind
/-- what a form leaves over at a set: a row -/
def x_u {R : Type} [Lean.Grind.CommRing R] (f : Nat → R) (T e : Nat) : R := if T.testBit e = true then 0 else x_s R (x_od T e) * f (x_t T e)
theorem x_uw {R : Type} [Lean.Grind.CommRing R] (r f : Nat → R) (T e : Nat) (he : e < 12) : x_u (x_w r f) T e = f T * r e - x_sm 12 (fun g => if T.testBit g = true then x_s R (x_od T g) * r g * x_u f (x_t T g) e else 0) := by
  by_cases q : T.testBit e = true
  · have h1 : x_u (x_w r f) T e = 0 := by unfold x_u; rw [if_pos q]
    rw [h1, x_sm1 (k := e) 12 he (fun g hg hn => ?_)]
    · rw [if_pos q]
      unfold x_u
      rw [x_tbs, q, if_neg (by simp), x_tt, x_odt e he]
      have := x_ss (R := R) (x_od T e)
      rw [show decide (e < e) = false by simp, Bool.xor_false]
      grind
    · by_cases q2 : T.testBit g = true
      · rw [if_pos q2]
        unfold x_u
        rw [x_tbn (fun z : e = g => hn z.symm), if_pos q]; grind
      · rw [if_neg q2]
  · have q' : T.testBit e = false := by cases h : T.testBit e <;> simp_all
    have h1 : x_u (x_w r f) T e = x_s R (x_od T e) * x_w r f (x_t T e) := by unfold x_u; rw [if_neg q]
    rw [h1]
    unfold x_w
    have split : x_sm 12 (fun g => if (x_t T e).testBit g = true then x_s R (x_od (x_t T e) g) * r g * f (x_t (x_t T e) g) else 0) = x_sm 12 (fun g => (if g = e then x_s R (x_od T e) * r e * f T else 0) + (if T.testBit g = true then x_s R (x_od T g) * x_s R (decide (g < e)) * r g * f (x_t (x_t T g) e) else 0)) := by
      refine x_smc 12 (fun g hg => ?_)
      by_cases hge : g = e
      · subst hge
        rw [x_tbs, q', if_pos (by simp), if_pos rfl, if_neg (by simp), x_tt, x_odt g he]
        rw [show decide (g < g) = false by simp, Bool.xor_false]
        grind
      · rw [x_tbn hge, if_neg hge]
        by_cases q2 : T.testBit g = true
        · rw [if_pos q2, if_pos q2, x_odt g he, x_sx, x_tc]; grind
        · rw [if_neg q2, if_neg q2]; grind
    rw [split, x_sma, x_sm1 (k := e) 12 he (fun i hi hn => if_neg hn), if_pos rfl]
    have h2 : x_s R (x_od T e) * x_sm 12 (fun g => if T.testBit g = true then x_s R (x_od T g) * x_s R (decide (g < e)) * r g * f (x_t (x_t T g) e) else 0) = - x_sm 12 (fun g => if T.testBit g = true then x_s R (x_od T g) * r g * x_u f (x_t T g) e else 0) := by
      rw [← x_smm, ← x_smn]
      refine x_smc 12 (fun g hg => ?_)
      by_cases q2 : T.testBit g = true
      · have hge : e ≠ g := fun z => by rw [z] at q'; rw [q'] at q2; exact Bool.noConfusion q2
        rw [if_pos q2, if_pos q2]
        unfold x_u
        rw [x_tbn hge, q', if_neg (by simp), x_odt e hg, x_sx, x_slt hge]
        grind
      · rw [if_neg q2, if_neg q2]; grind
    have h3 := x_ss (R := R) (x_od T e)
    grind
/-- the wedge of rows, the last one first -/
def x_wd {R : Type} [Lean.Grind.CommRing R] : List (Nat → R) → Nat → R
  | [] => fun S => if S = 0 then 1 else 0
  | r :: rs => x_w r (x_wd rs)
theorem x_wd0 {R : Type} [Lean.Grind.CommRing R] {r : Nat → R} : ∀ (rs : List (Nat → R)) (S : Nat), r ∈ rs → x_w r (x_wd rs) S = 0
  | [], S, h => absurd h (by simp)
  | s :: rs, S, h => by
    rcases List.mem_cons.mp h with h | h
    · rw [h]; exact x_ww0 s (x_wd rs) S
    · show x_w r (x_w s (x_wd rs)) S = 0
      rw [x_wwa, x_wz s _ (fun T => x_wd0 rs T h)]
      grind
