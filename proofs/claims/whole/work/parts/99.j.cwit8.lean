/-! PURE, the class: Witness: makeRoom, finds -/
/-- a minor: K is kept, c contracted, f maps the guest's elements into K -/
def w_E (b b' : Nat → Bool) (n g K c : Nat) (f : Nat → Nat) : Prop := K < 2 ^ n ∧ x_n K = g ∧ c < 2 ^ n ∧ (∀ j, c.testBit j = true → K.testBit j = false) ∧ (∀ i, i < g → f i < 12 ∧ K.testBit (f i) = true) ∧ (∀ i j, i < g → j < g → f i = f j → i = j) ∧ ∀ S, S < 2 ^ g → x_rk b (x_im g f S ||| c) = x_rk b' S + x_rk b c
/-- the first witness -/
def w_1st (b b' : Nat → Bool) (n g K c : Nat) (f : Nat → Nat) : Prop := w_E b b' n g K c f ∧ ∀ K2 c2 f2, w_E b b' n g K2 c2 f2 → x_key K < x_key K2 ∨ (K = K2 ∧ (x_key c < x_key c2 ∨ (c = c2 ∧ ((∀ i, i < g → f2 i = f i) ∨ ∃ i, i < g ∧ (∀ j, j < i → f2 j = f j) ∧ f i < f2 i))))
def w_ans (b b' : Nat → Bool) (n g : Nat) (fd co de : Int32) (gi : Nat → Int32) : Prop := (fd = 0 ∧ ¬ ∃ K c f, w_E b b' n g K c f) ∨ (fd = 1 ∧ ∃ K c f, w_1st b b' n g K c f ∧ co = nI c ∧ de = nI (x_co n (K ||| c)) ∧ ∀ i, i < g → gi i = nI (f i))
section CFI
variable {n R g r : Nat} {b b' : Nat → Bool} {K : Nat} {k : Nat → Nat}
theorem w_EP (hg : g ≤ 12) (hk : x_kp K g k) {c : Nat} {f : Nat → Nat} (hK : K < 2 ^ n) (hKg : x_n K = g) (hc : c < 2 ^ n) (hcK : ∀ j, c.testBit j = true → K.testBit j = false) (h : w_P (x_rk b) (x_rk b') g k c g f) : w_E b b' n g K c (fun i => k (f i)) :=
  ⟨hK, hKg, hc, hcK, fun i hi => ⟨hk.1.2 _ (h.1 i hi), hk.2.1 _ (h.1 i hi)⟩, fun i j hi hj e => h.2.1 i j hi hj (x_upi hk.1 (h.1 i hi) (h.1 j hj) e), h.2.2⟩
theorem w_PE (hk : x_kp K g k) {c : Nat} {f : Nat → Nat} (h : w_E b b' n g K c f) : w_P (x_rk b) (x_rk b') g k c g (fun i => x_cn (f i) (fun j => K.testBit j)) ∧ ∀ i, i < g → k (x_cn (f i) (fun j => K.testBit j)) = f i := by
  obtain ⟨h1, h2, h3, h4, h5, h6, h7⟩ := h
  have hk2 : ∀ i, i < g → x_cn (f i) (fun j => K.testBit j) < g ∧ k (x_cn (f i) (fun j => K.testBit j)) = f i := fun i hi => hk.2.2 (f i) (h5 i hi).1 (h5 i hi).2
  refine ⟨⟨fun i hi => (hk2 i hi).1, fun i j hi hj e => h6 i j hi hj ?_, fun S hS => ?_⟩, fun i hi => (hk2 i hi).2⟩
  · rw [← (hk2 i hi).2, ← (hk2 j hj).2]
    exact congrArg k e
  · rw [← h7 S hS]
    congr 2
    exact x_imc (fun i hi => (hk2 i hi).2)
theorem w_cork (h : x_M n R b) : ∀ (u T X : Nat), x_df T X = u → (∀ i, i < 12 → X.testBit i = true → T.testBit i = true) → x_rk b T ≤ x_rk b X + u := by
  intro u
  induction u with
  | zero =>
    intro T X hu _
    have := x_rkm h (x_df0 hu)
    rw [Nat.add_zero]
    exact this
  | succ u ih =>
    intro T X hu hs
    obtain ⟨e, he, b1, b2⟩ := x_dfp (S := T) (T := X) (by rw [hu]; exact Nat.succ_ne_zero u)
    have hdf : x_df T X = x_df (x_t T e) X + 1 := x_cnf 12 he (by show (T.testBit e && !X.testBit e) = true; rw [b1, b2]; rfl) (by show ((x_t T e).testBit e && !X.testBit e) = false; rw [x_tbs, b1]; rfl) (fun i _ hn => by
      show (T.testBit i && !X.testBit i) = ((x_t T e).testBit i && !X.testBit i)
      rw [x_tbn hn])
    rw [hu] at hdf
    have ih := ih (x_t T e) X (Nat.succ.inj hdf).symm (fun i hi hb => by rw [x_tbn (fun z => by rw [z, b2] at hb; exact Bool.noConfusion hb)]; exact hs i hi hb)
    have h1 := x_rk1 h (S := x_t T e) he (by rw [x_tbs, b1]; rfl)
    rw [x_tt] at h1
    exact Nat.le_trans h1 (Nat.succ_le_succ ih)
theorem x_cn3 {p a c e : Nat → Bool} : ∀ m, (∀ i, i < m → (if p i = true then 1 else 0) + (if a i = true then 1 else 0) + (if c i = true then 1 else 0) = (if e i = true then 1 else 0)) → x_cn m p + x_cn m a + x_cn m c = x_cn m e
  | 0, _ => rfl
  | m + 1, h => by
    have ih := x_cn3 m (fun i hi => h i (by omega))
    have h1 := h m (by omega)
    show x_cn m p + (if p m = true then 1 else 0) + (x_cn m a + (if a m = true then 1 else 0)) + (x_cn m c + (if c m = true then 1 else 0)) = x_cn m e + (if e m = true then 1 else 0)
    omega
theorem x_nfull (hn : n ≤ 12) : x_n (2 ^ n - 1) = n := by
  rw [x_ncn (m := n) hn (Nat.sub_lt (Nat.two_pow_pos n) (by decide)), x_cnc (g := fun _ => true) n (fun i hi => by rw [Nat.testBit_two_pow_sub_one]; exact decide_eq_true hi), x_cnall]
theorem w_left {c : Nat} (hn : n ≤ 12) (hK : K < 2 ^ n) (hc : c < 2 ^ n) (hd : ∀ j, c.testBit j = true → K.testBit j = false) : x_df (2 ^ n - 1) (K ||| c) + x_n K + x_n c = n := by
  have e := x_nfull hn
  unfold x_n at e
  unfold x_df x_n
  refine Eq.trans (x_cn3 12 (fun m hm => ?_)) e
  · show (if ((2 ^ n - 1).testBit m && !(K ||| c).testBit m) = true then 1 else 0) + (if K.testBit m = true then 1 else 0) + (if c.testBit m = true then 1 else 0) = (if (2 ^ n - 1).testBit m = true then 1 else 0)
    have hd := hd m
    rw [Nat.testBit_or, Nat.testBit_two_pow_sub_one]
    by_cases q : m < n
    · rw [decide_eq_true q]
      cases a1 : K.testBit m <;> cases a2 : c.testBit m
      · simp
      · simp
      · simp
      · rw [a1, a2] at hd; exact absurd (hd rfl) (by decide)
    · have z1 : K.testBit m = false := Nat.testBit_lt_two_pow (Nat.lt_of_lt_of_le hK (Nat.pow_le_pow_right (by decide) (by omega)))
      have z2 : c.testBit m = false := Nat.testBit_lt_two_pow (Nat.lt_of_lt_of_le hc (Nat.pow_le_pow_right (by decide) (by omega)))
      rw [decide_eq_false q, z1, z2]
      simp
/-- neither the rank nor that of the dual gets greater -/
theorem w_ER (hb : x_M n R b) (hb' : x_M g r b') {c : Nat} {f : Nat → Nat} (h : w_E b b' n g K c f) : r ≤ R ∧ R - r ≤ n - g ∧ g ≤ n := by
  have hn := hb.1
  obtain ⟨k, hk⟩ := x_kpE K
  rw [h.2.1] at hk
  have hp : 2 ^ n ≤ 2 ^ 12 := Nat.pow_le_pow_right (by decide) hn
  have hall := w_all (by have := h.1; omega) hk (w_PE hk h).1
  rw [x_rkall hb' (S := 2 ^ g - 1) (fun i hi => by rw [Nat.testBit_two_pow_sub_one]; exact decide_eq_true hi)] at hall
  have h1 := x_rkr hb (K ||| c)
  have hgn : g ≤ n := by
    have := x_nlen hn h.1
    rw [h.2.1] at this
    exact this
  have h2 := w_cork hb _ (2 ^ n - 1) (K ||| c) rfl (fun i hi hbit => by
    rw [Nat.testBit_two_pow_sub_one]
    refine decide_eq_true ?_
    by_cases q : i < n
    · exact q
    · rw [Nat.testBit_lt_two_pow (Nat.lt_of_lt_of_le (Nat.or_lt_two_pow h.1 h.2.2.1) (Nat.pow_le_pow_right (by decide) (by omega)))] at hbit
      exact absurd hbit (by decide))
  rw [x_rkall hb (S := 2 ^ n - 1) (fun i hi => by rw [Nat.testBit_two_pow_sub_one]; exact decide_eq_true hi)] at h2
  have hdf := w_left hn h.1 h.2.2.1 h.2.2.2.1
  generalize x_df (2 ^ n - 1) (K ||| c) = df at *
  have h3 := x_rkn (b := b) c
  have h4 := h.2.1
  omega
variable {cm np ns : Nat} {pa sa : Nat → Nat} {pp : Nat → px_PR} {ss : Nat → px_SR} {v1 v2 v3 v4 v5 v6 v7 v8 v9 : Int32} {q_o l_o : Nat} {o_r : Int32} {g_o g_t : Nat → Int32} {mm : Nat → px_MR} {a0 a1 q : Nat} {mc ms l : Nat}
def c_JG (mm mm' : Nat → px_MR) (a0 a1 n g : Nat) (b b' : Nat → Bool) : Prop := (∀ i, i ≠ a0 → i ≠ a1 → mm' i = mm i) ∧ c_Z (mm a0) (mm' a0) n b ∧ c_Z (mm a1) (mm' a1) g b'
def c_mrc (mm : Nat → px_MR) (a0 a1 n g l : Nat) : Nat := c_rc (mm a0) n + (if a1 = a0 then 0 else c_rc (mm a1) g) + (if 2 ^ n ≤ l then 0 else 3)
def c_mrs (mm : Nat → px_MR) (a0 a1 n g l : Nat) : Nat := c_rs (mm a0) n + (if a1 = a0 then 0 else c_rs (mm a1) g) + (if 2 ^ n ≤ l then 0 else 3 * 2 ^ n)
theorem c_makeRoom {post : Nat → Nat → Nat → Nat → Nat → Nat → Option Nat → Option Nat → Int32 → Int32 → Int32 → Int32 → Int32 → Int32 → Int32 → Int32 → Int32 → (Nat → Int32) → (Nat → Int32) → (Nat → Int32) → Nat → Nat → Int32 → (Nat → Int32) → (Nat → Int32) → (Nat → px_MR) → Prop} {qk qr qg : Nat} {gk gr gg : Nat → Int32} (ha0 : a0 < cm) (ha1 : a1 < cm) (hB : c_B (mm a0) n R b) (hD : c_B (mm a1) g r b') (hKb : c_K (mm a0) n b) (hKd : c_K (mm a1) g b') (hsame : a1 = a0 → g = n ∧ r = R ∧ b' = b) (hl : l ≤ 4096) (hmc : c_mrc mm a0 a1 n g l ≤ mc) (hms : c_mrs mm a0 a1 n g l ≤ ms)
    (h : ∀ mm' qk' qr' qg' gk' gr' gg', c_JG mm mm' a0 a1 n g b b' → c_R (mm' a0) n b → c_R (mm' a1) g b' → post qk' qr' qg' (max l (2 ^ n)) (max l (2 ^ n)) (max l (2 ^ n)) (some a0) (some a1) v1 v2 v3 v4 v5 v6 v7 v8 v9 gk' gr' gg' q_o l_o o_r g_o g_t mm') : w297_wp cm np ns pa sa pp ss mc ms post qk qr qg l l l (some a0) (some a1) v1 v2 v3 v4 v5 v6 v7 v8 v9 gk gr gg q_o l_o o_r g_o g_t mm := by
  have hn := hB.2.2.1.1
  have hg := hD.2.2.1.1
  have hp := b_p12 hn
  have hp0 := Nat.two_pow_pos n
  have hpg := Nat.two_pow_pos g
  unfold c_mrc at hmc
  unfold c_mrs at hms
  refine ⟨fun k => by simp at k, fun a k => ?_⟩
  cases k
  refine ⟨c_rc (mm a0) n, c_rs (mm a0) n, by omega, by omega, ha0, c_rankOf (S := 0) ha0 hB hKb hp0 (Nat.le_refl _) (Nat.le_refl _) (fun M0 hQ0 hR0 => ⟨fun k => by simp at k, fun a k => ?_⟩)⟩
  cases k
  -- the second call
  have e0 : va_up mm a0 M0 a0 = M0 := va_up_self _ _ _
  have hz := c_Qc hB hQ0
  have hD1 : c_B (va_up mm a0 M0 a1) g r b' := by
    by_cases z : a1 = a0
    · obtain ⟨z1, z2, z3⟩ := hsame z
      rw [z, e0, z1, z2, z3]; exact c_QB hB hQ0
    · rw [va_up_ne _ _ z]; exact hD
  have hK1 : c_K (va_up mm a0 M0 a1) g b' := by
    by_cases z : a1 = a0
    · obtain ⟨z1, z2, z3⟩ := hsame z
      rw [z, e0, z1, z3]; exact Or.inr hR0
    · rw [va_up_ne _ _ z]; exact hKd
  have hcost : c_rc (va_up mm a0 M0 a1) g = (if a1 = a0 then 0 else c_rc (mm a1) g) ∧ c_rs (va_up mm a0 M0 a1) g = (if a1 = a0 then 0 else c_rs (mm a1) g) := by
    by_cases z : a1 = a0
    · obtain ⟨z1, z2, z3⟩ := hsame z
      rw [if_pos z, if_pos z, z, e0, z1]; exact ⟨hz.1, hz.2.1⟩
    · rw [if_neg z, if_neg z, va_up_ne _ _ z]; exact ⟨rfl, rfl⟩
  refine ⟨c_rc (va_up mm a0 M0 a1) g, c_rs (va_up mm a0 M0 a1) g, by rw [hcost.1]; omega, by rw [hcost.2]; omega, ha1, c_rankOf (S := 0) ha1 hD1 hK1 hpg (Nat.le_refl _) (Nat.le_refl _) (fun M1 hQ1 hR1 => ⟨ha0, fun z19 e19 => ?_⟩)⟩
  have e1 : va_up (va_up mm a0 M0) a1 M1 a1 = M1 := va_up_self _ _ _
  have hJ : c_JG mm (va_up (va_up mm a0 M0) a1 M1) a0 a1 n g b b' ∧ c_R (va_up (va_up mm a0 M0) a1 M1 a0) n b ∧ c_R (va_up (va_up mm a0 M0) a1 M1 a1) g b' := by
    by_cases z : a1 = a0
    · obtain ⟨z1, z2, z3⟩ := hsame z
      subst z
      rw [e0, z1, z3] at hQ1
      rw [z1, z3] at hR1
      refine ⟨⟨fun i h1 h2 => by rw [va_up_ne _ _ h2, va_up_ne _ _ h1], ?_, ?_⟩, ?_, ?_⟩
      · rw [e1]; exact Or.inr (c_Zt hB (Or.inr hQ0) hQ1)
      · rw [e1, z1, z3]; exact Or.inr (c_Zt hB (Or.inr hQ0) hQ1)
      · rw [e1]; exact hR1
      · rw [e1, z1, z3]; exact hR1
    · rw [va_up_ne _ _ z] at hQ1
      have e2 : va_up (va_up mm a0 M0) a1 M1 a0 = M0 := by rw [va_up_ne _ _ (fun k => z k.symm), e0]
      refine ⟨⟨fun i h1 h2 => by rw [va_up_ne _ _ h2, va_up_ne _ _ h1], ?_, ?_⟩, ?_, ?_⟩
      · rw [e2]; exact Or.inr hQ0
      · rw [e1]; exact Or.inr hQ1
      · rw [e2]; exact hR0
      · rw [e1]; exact hR1
  have e13 : (va_up (va_up mm a0 M0) a1 M1 a0).2.1 13 = nI n := (c_ZB hB hJ.1.2.1).1
  rw [e13, b_sh (by omega)] at e19
  rw [e19, nI_clamp (show 2 ^ n < 2 ^ 31 by omega)]
  refine ⟨fun w => ?_, fun w => ?_⟩
  · have hle : 2 ^ n ≤ l := (nI_leI (by omega) (by omega)).1 w
    have := h _ qk qr qg gk gr gg hJ.1 hJ.2.1 hJ.2.2
    rw [Nat.max_eq_left hle] at this
    exact this
  · have hlt : ¬ 2 ^ n ≤ l := fun k => w (nI_le k (by omega))
    rw [if_neg hlt] at hmc hms
    have hp1 : ¬ nI (2 ^ n) < 0 := nI_pos (by omega)
    refine ⟨hp1, by omega, by rw [hcost.1]; omega, by rw [hcost.2]; omega, fun q39 => ⟨hp1, by omega, by rw [hcost.1]; omega, by rw [hcost.2]; omega, fun q46 => ⟨hp1, by omega, by rw [hcost.1]; omega, by rw [hcost.2]; omega, fun q53 => ?_⟩⟩⟩
    have := h _ q39 q46 q53 (fun _ => 0) (fun _ => 0) (fun _ => 0) hJ.1 hJ.2.1 hJ.2.2
    rw [Nat.max_eq_right (by omega)] at this
    exact this
end CFI
