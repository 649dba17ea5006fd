/-! PURE: minors: maps of elements, the first of them -/
def x_im : Nat → (Nat → Nat) → Nat → Nat
  | 0, _, _ => 0
  | m + 1, f, S => if S.testBit m = true then x_im m f S ||| 2 ^ f m else x_im m f S
theorem x_imb {f : Nat → Nat} {S j : Nat} : ∀ m, (x_im m f S).testBit j = true ↔ ∃ i, i < m ∧ f i = j ∧ S.testBit i = true
  | 0 => by
    constructor
    · intro h
      rw [show x_im 0 f S = 0 from rfl, Nat.zero_testBit] at h
      exact absurd h (by decide)
    · intro ⟨i, hi, _⟩
      exact absurd hi (Nat.not_lt_zero i)
  | m + 1 => by
    have ih := x_imb (f := f) (S := S) (j := j) m
    unfold x_im
    by_cases w : S.testBit m = true
    · rw [if_pos w, Nat.testBit_or, Nat.testBit_two_pow, Bool.or_eq_true, ih]
      constructor
      · intro h
        rcases h with ⟨i, h1, h2, h3⟩ | h
        · exact ⟨i, by omega, h2, h3⟩
        · exact ⟨m, by omega, of_decide_eq_true h, w⟩
      · intro ⟨i, h1, h2, h3⟩
        by_cases q : i = m
        · right; rw [← q]; exact decide_eq_true h2
        · left; exact ⟨i, by omega, h2, h3⟩
    · rw [if_neg w, ih]
      constructor
      · intro ⟨i, h1, h2, h3⟩; exact ⟨i, by omega, h2, h3⟩
      · intro ⟨i, h1, h2, h3⟩
        have : i ≠ m := fun q => w (q ▸ h3)
        exact ⟨i, by omega, h2, h3⟩
theorem x_bool {a b : Bool} (h : a = true ↔ b = true) : a = b := by
  cases a <;> cases b <;> simp at h <;> rfl
theorem x_iml {f : Nat → Nat} {S N : Nat} : ∀ m, (∀ i, i < m → f i < N) → x_im m f S < 2 ^ N := by
  intro m h
  refine Nat.lt_pow_two_of_testBit _ (fun j hj => ?_)
  cases q : (x_im m f S).testBit j with
  | false => rfl
  | true =>
    obtain ⟨i, h1, h2, _⟩ := (x_imb m).1 q
    have := h i h1
    omega
theorem x_imc {f f' : Nat → Nat} {S : Nat} {m : Nat} (h : ∀ i, i < m → f i = f' i) : x_im m f S = x_im m f' S := by
  apply Nat.eq_of_testBit_eq
  intro j
  apply x_bool
  rw [x_imb, x_imb]
  constructor
  · intro ⟨i, h1, h2, h3⟩; exact ⟨i, h1, by rw [← h i h1]; exact h2, h3⟩
  · intro ⟨i, h1, h2, h3⟩; exact ⟨i, h1, by rw [h i h1]; exact h2, h3⟩
theorem x_ims {f : Nat → Nat} {S e g : Nat} (he : e ≤ g) (hS : S < 2 ^ e) : x_im g f S = x_im e f S := by
  apply Nat.eq_of_testBit_eq
  intro j
  apply x_bool
  rw [x_imb, x_imb]
  constructor
  · intro ⟨i, h1, h2, h3⟩
    refine ⟨i, ?_, h2, h3⟩
    by_cases q : i < e
    · exact q
    · rw [Nat.testBit_lt_two_pow (Nat.lt_of_lt_of_le hS (Nat.pow_le_pow_right (by decide) (by omega)))] at h3
      exact absurd h3 (by decide)
  · intro ⟨i, h1, h2, h3⟩; exact ⟨i, by omega, h2, h3⟩
theorem x_imw {f : Nat → Nat} {S e : Nat} (hS : S < 2 ^ e) : x_im (e + 1) f (S ||| 2 ^ e) = x_im e f S ||| 2 ^ f e := by
  apply Nat.eq_of_testBit_eq
  intro j
  apply x_bool
  rw [Nat.testBit_or, Bool.or_eq_true, x_imb, x_imb, Nat.testBit_two_pow]
  have hb : ∀ i, (S ||| 2 ^ e).testBit i = (S.testBit i || decide (e = i)) := fun i => by rw [Nat.testBit_or, Nat.testBit_two_pow]
  constructor
  · intro ⟨i, h1, h2, h3⟩
    by_cases q : i = e
    · right; rw [← q]; exact decide_eq_true h2
    · left
      rw [hb, decide_eq_false (fun k => q k.symm), Bool.or_false] at h3
      exact ⟨i, by omega, h2, h3⟩
  · intro h
    rcases h with ⟨i, h1, h2, h3⟩ | h
    · exact ⟨i, by omega, h2, by rw [hb, h3]; rfl⟩
    · exact ⟨e, by omega, of_decide_eq_true h, by rw [hb, decide_eq_true rfl, Bool.or_true]⟩
theorem x_nor {S e : Nat} (he : e < 12) (h : S.testBit e = false) : x_n (S ||| 2 ^ e) = x_n S + 1 := by
  refine x_cnf 12 he ?_ h (fun i hi hne => ?_)
  · rw [Nat.testBit_or, Nat.testBit_two_pow, decide_eq_true rfl, Bool.or_true]
  · rw [Nat.testBit_or, Nat.testBit_two_pow, decide_eq_false (fun k => hne k.symm), Bool.or_false]
theorem x_imn {f : Nat → Nat} {S : Nat} : ∀ m, (∀ i, i < m → f i < 12) → (∀ i j, i < m → j < m → f i = f j → i = j) → x_n (x_im m f S) = x_cn m (fun i => S.testBit i)
  | 0, _, _ => by
    show x_n 0 = 0
    decide
  | m + 1, h1, h2 => by
    have ih := x_imn (f := f) (S := S) m (fun i hi => h1 i (by omega)) (fun i j hi hj => h2 i j (by omega) (by omega))
    show x_n (if S.testBit m = true then x_im m f S ||| 2 ^ f m else x_im m f S) = x_cn m (fun i => S.testBit i) + (if S.testBit m = true then 1 else 0)
    by_cases w : S.testBit m = true
    · rw [if_pos w, if_pos w, x_nor (h1 m (by omega)), ih]
      cases q : (x_im m f S).testBit (f m) with
      | false => rfl
      | true =>
        obtain ⟨i, a1, a2, _⟩ := (x_imb m).1 q
        have := h2 i m (by omega) (by omega) a2
        omega
    · rw [if_neg w, if_neg w, ih]; rfl
theorem x_ncn {S m : Nat} (hm : m ≤ 12) (hS : S < 2 ^ m) : x_n S = x_cn m (fun i => S.testBit i) := by
  have : ∀ u, m + u ≤ 12 → x_cn (m + u) (fun i => S.testBit i) = x_cn m (fun i => S.testBit i) := by
    intro u
    induction u with
    | zero => intro _; rfl
    | succ u ih =>
      intro h
      show x_cn (m + u) (fun i => S.testBit i) + (if S.testBit (m + u) = true then 1 else 0) = _
      rw [ih (by omega), Nat.testBit_lt_two_pow (Nat.lt_of_lt_of_le hS (Nat.pow_le_pow_right (by decide) (by omega)))]
      rfl
  have := this (12 - m) (by omega)
  rw [show m + (12 - m) = 12 by omega] at this
  exact this
/-- counting by an injection -/
theorem x_cnij {P Q : Nat → Bool} {F : Nat → Nat} {N' : Nat} : ∀ (N : Nat) (Q : Nat → Bool), (∀ i, i < N → P i = true → F i < N' ∧ Q (F i) = true) → (∀ i j, i < N → j < N → P i = true → P j = true → F i = F j → i = j) → x_cn N P ≤ x_cn N' Q := by
  intro N
  induction N with
  | zero => intro Q _ _; exact Nat.zero_le _
  | succ N ih =>
    intro Q h1 h2
    show x_cn N P + (if P N = true then 1 else 0) ≤ _
    by_cases w : P N = true
    · rw [if_pos w]
      obtain ⟨a1, a2⟩ := h1 N (by omega) w
      have e : x_cn N' Q = x_cn N' (fun j => Q j && !decide (j = F N)) + 1 := by
        refine x_cnf N' a1 a2 ?_ (fun i hi hne => ?_)
        · rw [decide_eq_true rfl]; simp
        · rw [decide_eq_false hne]; simp
      have := ih (fun j => Q j && !decide (j = F N)) (fun i hi hp => ?_) (fun i j hi hj => h2 i j (by omega) (by omega))
      · omega
      · obtain ⟨b1, b2⟩ := h1 i (by omega) hp
        refine ⟨b1, ?_⟩
        show (Q (F i) && !decide (F i = F N)) = true
        have hne : F i ≠ F N := fun k => by
          have := h2 i N (by omega) (by omega) hp w k
          omega
        rw [b2, decide_eq_false hne]; rfl
    · rw [if_neg w]
      exact ih Q (fun i hi => h1 i (by omega)) (fun i j hi hj => h2 i j (by omega) (by omega))
/-- f maps the guest's elements to places among the kept; c is contracted -/
def w_P (ρ ρ' : Nat → Nat) (g : Nat) (k : Nat → Nat) (c e : Nat) (f : Nat → Nat) : Prop := (∀ i, i < e → f i < g) ∧ (∀ i j, i < e → j < e → f i = f j → i = j) ∧ ∀ S, S < 2 ^ e → ρ (x_im e (fun i => k (f i)) S ||| c) = ρ' S + ρ c
/-- the first of the maps that agree with f below e -/
def w_L (ρ ρ' : Nat → Nat) (g : Nat) (k : Nat → Nat) (c e : Nat) (f f' : Nat → Nat) : Prop := w_P ρ ρ' g k c g f' ∧ (∀ i, i < e → f' i = f i) ∧ ∀ h, w_P ρ ρ' g k c g h → (∀ i, i < e → h i = f i) → (∀ i, i < g → h i = f' i) ∨ ∃ i, i < g ∧ (∀ j, j < i → h j = f' j) ∧ f' i < h i
section WIT
variable {ρ ρ' : Nat → Nat} {g : Nat} {k : Nat → Nat} {c e : Nat} {f f' : Nat → Nat}
theorem w_Pc (hff : ∀ i, i < e → f i = f' i) (h : w_P ρ ρ' g k c e f) : w_P ρ ρ' g k c e f' := by
  refine ⟨fun i hi => by rw [← hff i hi]; exact h.1 i hi, fun i j hi hj => by rw [← hff i hi, ← hff j hj]; exact h.2.1 i j hi hj, fun S hS => ?_⟩
  rw [← h.2.2 S hS]
  congr 2
  exact x_imc (fun i hi => by rw [hff i hi])
theorem w_Pm {d : Nat} (hd : d ≤ e) (h : w_P ρ ρ' g k c e f) : w_P ρ ρ' g k c d f := by
  refine ⟨fun i hi => h.1 i (by omega), fun i j hi hj => h.2.1 i j (by omega) (by omega), fun S hS => ?_⟩
  rw [← h.2.2 S (Nat.lt_of_lt_of_le hS (Nat.pow_le_pow_right (by decide) hd)), x_ims hd hS]
theorem w_P0 (h : ρ' 0 = 0) : w_P ρ ρ' g k c 0 f := by
  refine ⟨fun i hi => absurd hi (Nat.not_lt_zero i), fun i j hi => absurd hi (Nat.not_lt_zero i), fun S hS => ?_⟩
  have : S = 0 := by rw [Nat.pow_zero] at hS; omega
  rw [this, h, Nat.zero_add, show x_im 0 (fun i => k (f i)) 0 = 0 from rfl, Nat.zero_or]
theorem x_lt2 {e S : Nat} (hS : S < 2 ^ (e + 1)) : S < 2 ^ e ∨ ∃ T, T < 2 ^ e ∧ S = T ||| 2 ^ e := by
  by_cases q : S < 2 ^ e
  · exact Or.inl q
  · right
    rw [Nat.pow_succ] at hS
    refine ⟨S - 2 ^ e, by omega, ?_⟩
    have := Nat.two_pow_add_eq_or_of_lt (show S - 2 ^ e < 2 ^ e by omega) 1
    rw [Nat.mul_one] at this
    rw [Nat.or_comm, ← this]
    omega
theorem w_Ps (h : w_P ρ ρ' g k c e f) (hx : f e < g) (hn : ∀ i, i < e → f i ≠ f e) (hr : ∀ S, S < 2 ^ e → ρ (x_im e (fun i => k (f i)) S ||| c ||| 2 ^ k (f e)) = ρ' (S ||| 2 ^ e) + ρ c) : w_P ρ ρ' g k c (e + 1) f := by
  refine ⟨fun i hi => ?_, fun i j hi hj hij => ?_, fun S hS => ?_⟩
  · by_cases q : i = e
    · rw [q]; exact hx
    · exact h.1 i (by omega)
  · by_cases q : i = e
    · by_cases q' : j = e
      · omega
      · rw [q] at hij; exact absurd hij.symm (hn j (by omega))
    · by_cases q' : j = e
      · rw [q'] at hij; exact absurd hij (hn i (by omega))
      · exact h.2.1 i j (by omega) (by omega) hij
  · rcases x_lt2 hS with q | ⟨T, hT, e2⟩
    · rw [x_ims (Nat.le_succ e) q]; exact h.2.2 S q
    · rw [e2, x_imw hT, ← hr T hT, Nat.or_assoc, Nat.or_comm (2 ^ k (f e)) c, ← Nat.or_assoc]
theorem w_Pr (h : w_P ρ ρ' g k c (e + 1) f) {S : Nat} (hS : S < 2 ^ e) : ρ (x_im e (fun i => k (f i)) S ||| c ||| 2 ^ k (f e)) = ρ' (S ||| 2 ^ e) + ρ c := by
  have h2 : S ||| 2 ^ e < 2 ^ (e + 1) := Nat.or_lt_two_pow (Nat.lt_of_lt_of_le hS (Nat.pow_le_pow_right (by decide) (by omega))) (Nat.pow_lt_pow_right (by decide) (by omega))
  rw [← h.2.2 _ h2, x_imw hS, Nat.or_assoc, Nat.or_comm c (2 ^ k (f e)), ← Nat.or_assoc]
/-- one level of the search: x is the first value that goes on -/
theorem w_Ls {x : Nat} (heg : e < g) (hx : ∀ y, y < x → ¬ ∃ h, w_P ρ ρ' g k c g h ∧ (∀ i, i < e → h i = f i) ∧ h e = y) (hL : w_L ρ ρ' g k c (e + 1) (va_up f e x) f') : w_L ρ ρ' g k c e f f' := by
  obtain ⟨a1, a2, a3⟩ := hL
  have ae : f' e = x := by
    rw [a2 e (by omega), va_up_self]
  have ai : ∀ i, i < e → f' i = f i := fun i hi => by
    rw [a2 i (by omega), va_up_ne _ _ (by omega)]
  refine ⟨a1, ai, fun h hh hag => ?_⟩
  by_cases q : h e = x
  · refine a3 h hh (fun i hi => ?_)
    by_cases w : i = e
    · rw [w, va_up_self, q]
    · rw [va_up_ne _ _ w]; exact hag i (by omega)
  · right
    refine ⟨e, heg, fun j hj => by rw [hag j hj, ai j hj], ?_⟩
    rw [ae]
    by_cases w : h e < x
    · exact absurd ⟨h, hh, hag, rfl⟩ (hx _ w)
    · omega
/-- two first ones are the same -/
theorem w_Lu {f1 f2 : Nat → Nat} (h1 : w_L ρ ρ' g k c e f f1) (h2 : w_L ρ ρ' g k c e f f2) : ∀ i, i < g → f1 i = f2 i := by
  obtain ⟨a1, a2, a3⟩ := h1
  obtain ⟨b1, b2, b3⟩ := h2
  rcases a3 f2 b1 b2 with q | ⟨i, i1, i2, i3⟩
  · exact fun i hi => (q i hi).symm
  · rcases b3 f1 a1 a2 with q | ⟨j, j1, j2, j3⟩
    · exact q
    · exfalso
      rcases Nat.lt_trichotomy i j with w | w | w
      · have := j2 i w; omega
      · subst w; omega
      · have := i2 j w; omega
end WIT
