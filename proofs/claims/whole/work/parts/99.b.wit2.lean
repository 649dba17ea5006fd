/-! PURE: minors: what a map needs -/
theorem x_cnnot {P : Nat → Bool} : ∀ N, x_cn N P + x_cn N (fun i => !P i) = N
  | 0 => rfl
  | N + 1 => by
    have ih := x_cnnot (P := P) N
    show x_cn N P + (if P N = true then 1 else 0) + (x_cn N (fun i => !P i) + (if (!P N) = true then 1 else 0)) = N + 1
    cases P N <;> simp <;> omega
theorem x_cnbij {P Q : Nat → Bool} {F : Nat → Nat} {N : Nat} (hF : ∀ i, i < N → F i < N) (hi : ∀ i j, i < N → j < N → F i = F j → i = j) (h : ∀ i, i < N → Q (F i) = P i) : x_cn N P = x_cn N Q := by
  have h1 : x_cn N P ≤ x_cn N Q := x_cnij (Q := Q) (F := F) N Q (fun i hN hp => ⟨hF i hN, by rw [h i hN]; exact hp⟩) (fun i j a b _ _ => hi i j a b)
  have h2 : x_cn N (fun i => !P i) ≤ x_cn N (fun i => !Q i) := x_cnij (P := fun i => !P i) (Q := fun i => !Q i) (F := F) N (fun i => !Q i) (fun i hN hp => ⟨hF i hN, by show (!Q (F i)) = true; rw [h i hN]; exact hp⟩) (fun i j a b _ _ => hi i j a b)
  have e1 := x_cnnot (P := P) N
  have e2 := x_cnnot (P := Q) N
  omega
theorem x_cnall : ∀ N, x_cn N (fun _ => true) = N
  | 0 => rfl
  | N + 1 => by
    show x_cn N (fun _ => true) + 1 = N + 1
    rw [x_cnall N]
theorem x_onto {f : Nat → Nat} {g : Nat} (h1 : ∀ i, i < g → f i < g) (h2 : ∀ i j, i < g → j < g → f i = f j → i = j) {m : Nat} (hm : m < g) : ∃ i, i < g ∧ f i = m := by
  have hle : x_cn g (fun _ => true) ≤ x_cn g (fun m => decide (∃ i, i < g ∧ f i = m)) := x_cnij (P := fun _ => true) (Q := fun m => decide (∃ i, i < g ∧ f i = m)) (F := f) g (fun m => decide (∃ i, i < g ∧ f i = m)) (fun i hi _ => ⟨h1 i hi, decide_eq_true ⟨i, hi, rfl⟩⟩) (fun i j a b _ _ => h2 i j a b)
  have hge : x_cn g (fun m => decide (∃ i, i < g ∧ f i = m)) ≤ x_cn g (fun _ => true) := x_cnle g (fun _ _ _ => rfl)
  have := x_cneq g (f := fun m => decide (∃ i, i < g ∧ f i = m)) (g := fun _ => true) (fun _ _ _ => rfl) (by omega) m hm
  exact of_decide_eq_true this
section WNE
variable {ρ ρ' : Nat → Nat} {g r K : Nat} {k : Nat → Nat} {c : Nat} {f : Nat → Nat}
theorem x_sdim (hk : x_up g k) (hf : ∀ i, i < g → f i < g) (S : Nat) : x_sd g k (x_im g f S) = x_im g (fun i => k (f i)) S := by
  apply Nat.eq_of_testBit_eq
  intro j
  apply x_bool
  rw [x_imb]
  constructor
  · intro h
    by_cases w : ∃ m, m < g ∧ k m = j
    · obtain ⟨m, hm, e⟩ := w
      rw [← e, x_sdb g hk m hm] at h
      obtain ⟨i, i1, i2, i3⟩ := (x_imb g).1 h
      exact ⟨i, i1, by rw [i2, e], i3⟩
    · rw [x_sdo g (fun m hm e => w ⟨m, hm, e⟩)] at h
      exact absurd h (by decide)
  · intro ⟨i, i1, i2, i3⟩
    rw [← i2, x_sdb g hk _ (hf i i1)]
    exact (x_imb g).2 ⟨i, i1, rfl, i3⟩
theorem w_im12 (hk : x_kp K g k) (hf : ∀ i, i < g → f i < g) (S : Nat) : x_im g (fun i => k (f i)) S < 2 ^ 12 := x_iml g (fun i hi => hk.1.2 _ (hf i hi))
theorem w_imK (hk : x_kp K g k) (hf : ∀ i, i < g → f i < g) {S j : Nat} (h : (x_im g (fun i => k (f i)) S).testBit j = true) : K.testBit j = true := by
  obtain ⟨i, i1, i2, _⟩ := (x_imb g).1 h
  rw [← i2]
  exact hk.2.1 _ (hf i i1)
/-- the others' image is what is left over of K -/
theorem w_imco (hK : K < 2 ^ 12) (hk : x_kp K g k) (hf : ∀ i, i < g → f i < g) (hi : ∀ i j, i < g → j < g → f i = f j → i = j) (S : Nat) : x_im g (fun i => k (f i)) (x_co g S) = K ^^^ x_im g (fun i => k (f i)) S := by
  apply Nat.eq_of_testBit_eq
  intro j
  rw [Nat.testBit_xor]
  by_cases w : K.testBit j = true
  · have hj : j < 12 := by
      by_cases q : j < 12
      · exact q
      · rw [Nat.testBit_lt_two_pow (Nat.lt_of_lt_of_le hK (Nat.pow_le_pow_right (by decide) (by omega)))] at w
        exact absurd w (by decide)
    obtain ⟨h1, h2⟩ := hk.2.2 j hj w
    obtain ⟨i, i1, i2⟩ := x_onto hf hi h1
    have key : ∀ T : Nat, (x_im g (fun i => k (f i)) T).testBit j = T.testBit i := by
      intro T
      apply x_bool
      rw [x_imb]
      constructor
      · intro ⟨i', a1, a2, a3⟩
        have e1 : k (f i') = k (f i) := by
          rw [show k (f i') = j from a2, i2, h2]
        have e2 : f i' = f i := x_upi hk.1 (hf i' a1) (hf i i1) e1
        rw [← hi i' i a1 i1 e2]
        exact a3
      · intro a3
        exact ⟨i, i1, by show k (f i) = j; rw [i2, h2], a3⟩
    rw [key, key, x_cob i1, w]
    cases S.testBit i <;> rfl
  · have n1 : (x_im g (fun i => k (f i)) (x_co g S)).testBit j = false := by
      cases q : (x_im g (fun i => k (f i)) (x_co g S)).testBit j
      · rfl
      · exact absurd (w_imK hk hf q) w
    have n2 : (x_im g (fun i => k (f i)) S).testBit j = false := by
      cases q : (x_im g (fun i => k (f i)) S).testBit j
      · rfl
      · exact absurd (w_imK hk hf q) w
    rw [n1, n2]
    cases q : K.testBit j
    · rfl
    · exact absurd q w
theorem w_xor {I : Nat} (hI : ∀ j, I.testBit j = true → K.testBit j = true) (hc : ∀ j, c.testBit j = true → K.testBit j = false) : K ^^^ (I ||| c) = (K ^^^ I) ||| c := by
  apply Nat.eq_of_testBit_eq
  intro j
  rw [Nat.testBit_xor, Nat.testBit_or, Nat.testBit_or, Nat.testBit_xor]
  have h1 := hI j
  have h2 := hc j
  cases hK : K.testBit j <;> cases hI' : I.testBit j <;> cases hc' : c.testBit j <;> simp [hK, hI', hc'] at h1 h2 ⊢
theorem w_co (hK : K < 2 ^ 12) (hk : x_kp K g k) (hc : ∀ j, c.testBit j = true → K.testBit j = false) (h : w_P ρ ρ' g k c g f) {S : Nat} (hS : S < 2 ^ g) : ρ (K ^^^ (x_im g (fun i => k (f i)) S ||| c)) = ρ' (x_co g S) + ρ c := by
  rw [w_xor (fun j hj => w_imK hk h.1 hj) hc, ← w_imco hK hk h.1 h.2.1 S]
  exact h.2.2 _ (x_col hS)
theorem x_co0 (g : Nat) : x_co g 0 = 2 ^ g - 1 := Nat.xor_zero _
theorem w_all (hK : K < 2 ^ 12) (hk : x_kp K g k) (h : w_P ρ ρ' g k c g f) : ρ (K ||| c) = ρ' (2 ^ g - 1) + ρ c := by
  have e := w_imco hK hk h.1 h.2.1 0
  have z : x_im g (fun i => k (f i)) 0 = 0 := by
    apply Nat.eq_of_testBit_eq
    intro j
    rw [Nat.zero_testBit]
    cases q : (x_im g (fun i => k (f i)) 0).testBit j
    · rfl
    · obtain ⟨i, _, _, i3⟩ := (x_imb g).1 q
      rw [Nat.zero_testBit] at i3
      exact absurd i3 (by decide)
  rw [z, Nat.xor_zero, x_co0] at e
  rw [← e]
  exact h.2.2 _ (Nat.sub_lt (Nat.two_pow_pos g) (by decide))
/-- bases: the guest's, the minor's by places -/
def w_gb (ρ' : Nat → Nat) (r B : Nat) : Bool := decide (x_n B = r) && decide (ρ' B = r)
def w_hb (ρ : Nat → Nat) (g : Nat) (k : Nat → Nat) (c r T : Nat) : Bool := decide (x_n T = r) && decide (ρ (x_sd g k T ||| c) = r + ρ c)
theorem w_bas (hg : g ≤ 12) (hk : x_kp K g k) (h : w_P ρ ρ' g k c g f) {B : Nat} (hB : B < 2 ^ g) : w_hb ρ g k c r (x_im g f B) = w_gb ρ' r B := by
  unfold w_hb w_gb
  rw [x_sdim hk.1 h.1, h.2.2 B hB, x_imn g (fun i hi => Nat.lt_of_lt_of_le (h.1 i hi) hg) h.2.1, ← x_ncn hg hB]
  congr 1
  simp
theorem w_imi (hg : g ≤ 12) (h1 : ∀ i, i < g → f i < g) (h2 : ∀ i j, i < g → j < g → f i = f j → i = j) {S T : Nat} (hS : S < 2 ^ g) (hT : T < 2 ^ g) (e : x_im g f S = x_im g f T) : S = T := by
  apply Nat.eq_of_testBit_eq
  intro i
  by_cases w : i < g
  · have key : ∀ T : Nat, (x_im g f T).testBit (f i) = T.testBit i := by
      intro T
      apply x_bool
      rw [x_imb]
      constructor
      · intro ⟨i', a1, a2, a3⟩
        rw [← h2 i' i a1 w a2]; exact a3
      · intro a3; exact ⟨i, w, rfl, a3⟩
    rw [← key S, ← key T, e]
  · rw [Nat.testBit_lt_two_pow (Nat.lt_of_lt_of_le hS (Nat.pow_le_pow_right (by decide) (by omega))), Nat.testBit_lt_two_pow (Nat.lt_of_lt_of_le hT (Nat.pow_le_pow_right (by decide) (by omega)))]
theorem w_imbit (h2 : ∀ i j, i < g → j < g → f i = f j → i = j) {i : Nat} (hi : i < g) (T : Nat) : (x_im g f T).testBit (f i) = T.testBit i := by
  apply x_bool
  rw [x_imb]
  constructor
  · intro ⟨i', a1, a2, a3⟩
    rw [← h2 i' i a1 hi a2]; exact a3
  · intro a3; exact ⟨i, hi, rfl, a3⟩
/-- how many bases; how many with two elements -/
def w_nb (b : Nat → Bool) (g : Nat) : Nat := x_cn (2 ^ g) b
def w_np (b : Nat → Bool) (g e e' : Nat) : Nat := x_cn (2 ^ g) (fun B => b B && B.testBit e && B.testBit e')
theorem w_bases (hg : g ≤ 12) (hk : x_kp K g k) (h : w_P ρ ρ' g k c g f) : w_nb (w_gb ρ' r) g = w_nb (w_hb ρ g k c r) g :=
  x_cnbij (F := x_im g f) (fun B hB => x_iml g h.1) (fun S T hS hT e => w_imi hg h.1 h.2.1 hS hT e) (fun B hB => w_bas hg hk h hB)
theorem w_pairs (hg : g ≤ 12) (hk : x_kp K g k) (h : w_P ρ ρ' g k c g f) {e e' : Nat} (he : e < g) (he' : e' < g) : w_np (w_gb ρ' r) g e e' = w_np (w_hb ρ g k c r) g (f e) (f e') := by
  refine x_cnbij (F := x_im g f) (fun B hB => x_iml g h.1) (fun S T hS hT e => w_imi hg h.1 h.2.1 hS hT e) (fun B hB => ?_)
  show (w_hb ρ g k c r (x_im g f B) && (x_im g f B).testBit (f e) && (x_im g f B).testBit (f e')) = _
  rw [w_bas hg hk h hB, w_imbit h.2.1 he, w_imbit h.2.1 he']
theorem w_degs (hg : g ≤ 12) (hk : x_kp K g k) (h : w_P ρ ρ' g k c g f) (d : Nat) : x_cn g (fun i => decide (w_np (w_gb ρ' r) g i i = d)) = x_cn g (fun m => decide (w_np (w_hb ρ g k c r) g m m = d)) :=
  x_cnbij (F := f) h.1 h.2.1 (fun i hi => by
    show decide (w_np (w_hb ρ g k c r) g (f i) (f i) = d) = _
    rw [w_pairs hg hk h hi hi])
end WNE
