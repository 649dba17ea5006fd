/-! PURE: the parts of a matroid tell of its rows -/
def x_cs (S a b : Nat) : Bool := x_cr S (min a b) (max a b)
/-- the columns chosen of part x for the set B -/
def x_chn (hd : Nat → Nat) (pt : Nat → Option Nat) (cc : Nat → Nat) (tb : Nat → Bool) (n x B : Nat) : Nat := x_ho (hd x) pt cc (fun e => B.testBit e ^^ tb x) x n
def x_PV (p n : Nat) (g : Nat → Int) (pt : Nat → Option Nat) (cc hd : Nat → Nat) (tb : Nat → Bool) (Z : Nat → Nat → Int) : Prop :=
  (∀ B e x, ¬ x_md p (g B) = 0 → e < n → pt e = some x → ¬ x_md p (Z x (x_chn hd pt cc tb n x B)) = 0) ∧
  (∀ B q e x y, ¬ x_md p (g B) = 0 → q < n → e < n → B.testBit q = true → B.testBit e = false → pt q = some x → pt e = some y →
    (x = y → cc q ≠ cc e ∧ x_md p (x_u g (x_t B q) e * Z x (x_chn hd pt cc tb n x B)) = x_md p (x_s Int (tb x ^^ x_cs (x_chn hd pt cc tb n x B) (cc q) (cc e)) * Z x (x_chn hd pt cc tb n x B ^^^ (2 ^ cc q ||| 2 ^ cc e)) * x_u g (x_t B q) q)) ∧
    (x ≠ y → x_md p (g (x_t (x_t B q) e)) = 0))
/-- parts taken over -/
def x_TR (n m A n' : Nat) (k : Nat → Nat) (S U : Nat) (fl : Bool) (pt : Nat → Option Nat) (cc hd : Nat → Nat) (tb : Nat → Bool) (Z : Nat → Nat → Int) (pt' : Nat → Option Nat) (cc' hd' : Nat → Nat) (tb' : Nat → Bool) (Z' : Nat → Nat → Int) : Prop :=
  A + m ≤ n' ∧ (∀ i, i < m → k i < n) ∧ (∀ e, e < n → (S.testBit e = false ↔ ∃ i, i < m ∧ k i = e)) ∧ (∀ i, i < m → cc' (A + i) = cc (k i)) ∧
  (∀ i, i < m → ∃ a b, pt (k i) = some a ∧ pt' (A + i) = some b ∧ hd' b = hd a ||| x_ho 0 pt cc (fun e => S.testBit e && (U.testBit e ^^ tb a)) a n ∧ tb' b = (tb a ^^ fl) ∧ Z' b = Z a) ∧
  (∀ i i', i < m → i' < m → (pt' (A + i) = pt' (A + i') ↔ pt (k i) = pt (k i'))) ∧
  (∀ i j, i < m → j < n' → (j < A ∨ A + m ≤ j) → pt' (A + i) ≠ pt' j)
theorem x_hob {h0 : Nat} {pt : Nat → Option Nat} {cc : Nat → Nat} {P : Nat → Bool} {a j : Nat} : ∀ n, (x_ho h0 pt cc P a n).testBit j = true ↔ h0.testBit j = true ∨ ∃ e, e < n ∧ pt e = some a ∧ P e = true ∧ cc e = j
  | 0 => ⟨fun h => Or.inl h, fun h => h.elim id (fun ⟨e, h1, _⟩ => absurd h1 (Nat.not_lt_zero e))⟩
  | n + 1 => by
    have ih := x_hob (h0 := h0) (pt := pt) (cc := cc) (P := P) (a := a) (j := j) n
    have e : x_ho h0 pt cc P a (n + 1) = if pt n = some a ∧ P n = true then x_ho h0 pt cc P a n ||| 2 ^ cc n else x_ho h0 pt cc P a n := rfl
    rw [e]
    by_cases q : pt n = some a ∧ P n = true
    · rw [if_pos q, Nat.testBit_or, Bool.or_eq_true, ih, Nat.testBit_two_pow]
      constructor
      · intro h
        rcases h with (h | ⟨e, h1, h2⟩) | h
        · exact Or.inl h
        · exact Or.inr ⟨e, by omega, h2⟩
        · exact Or.inr ⟨n, by omega, q.1, q.2, of_decide_eq_true h⟩
      · intro h
        rcases h with h | ⟨e, h1, h2, h3, h4⟩
        · exact Or.inl (Or.inl h)
        · by_cases w : e = n
          · exact Or.inr (decide_eq_true (by rw [← w]; exact h4))
          · exact Or.inl (Or.inr ⟨e, by omega, h2, h3, h4⟩)
    · rw [if_neg q, ih]
      constructor
      · intro h
        rcases h with h | ⟨e, h1, h2⟩
        · exact Or.inl h
        · exact Or.inr ⟨e, by omega, h2⟩
      · intro h
        rcases h with h | ⟨e, h1, h2, h3, h4⟩
        · exact Or.inl h
        · by_cases w : e = n
          · exact absurd ⟨by rw [← w]; exact h2, by rw [← w]; exact h3⟩ q
          · exact Or.inr ⟨e, by omega, h2, h3, h4⟩
section XPV
variable {p n m A n' S U : Nat} {k : Nat → Nat} {fl : Bool} {pt pt' : Nat → Option Nat} {cc hd cc' hd' : Nat → Nat} {tb tb' : Nat → Bool} {Z Z' : Nat → Nat → Int} {g : Nat → Int}
theorem x_chT (h : x_TR n m A n' k S U fl pt cc hd tb Z pt' cc' hd' tb' Z') {i a b B T : Nat} (hi : i < m) (ha : pt (k i) = some a) (hb : pt' (A + i) = some b) (hBT : ∀ i, i < m → B.testBit (k i) = (T.testBit (A + i) ^^ fl)) (hBS : ∀ e, e < n → S.testBit e = true → B.testBit e = U.testBit e) : x_chn hd' pt' cc' tb' n' b T = x_chn hd pt cc tb n a B ∧ tb' b = (tb a ^^ fl) ∧ Z' b = Z a := by
  obtain ⟨h1, h2, h3, h4, h5, h6, h7⟩ := h
  obtain ⟨a0, b0, e1, e2, e3, e4, e5⟩ := h5 i hi
  rw [ha] at e1
  rw [hb] at e2
  cases e1
  cases e2
  refine ⟨?_, e4, e5⟩
  unfold x_chn
  refine Nat.eq_of_testBit_eq (fun j => ?_)
  rw [Bool.eq_iff_iff, x_hob, x_hob, e3, Nat.testBit_or, Bool.or_eq_true, x_hob]
  constructor
  · intro w
    rcases w with (w | w | ⟨e, w1, w2, w3, w4⟩) | ⟨e, w1, w2, w3, w4⟩
    · exact Or.inl w
    · rw [Nat.zero_testBit] at w; exact Bool.noConfusion w
    · obtain ⟨y1, y2⟩ := Bool.and_eq_true_iff.1 w3
      exact Or.inr ⟨e, w1, w2, by rw [hBS e w1 y1]; exact y2, w4⟩
    · by_cases q : e < A ∨ A + m ≤ e
      · exact absurd (hb.trans w2.symm) (h7 i e hi w1 q)
      · obtain ⟨i', rfl⟩ : ∃ i', e = A + i' := ⟨e - A, by omega⟩
        have hi' : i' < m := by omega
        refine Or.inr ⟨k i', h2 i' hi', ?_, ?_, by rw [← h4 i' hi']; exact w4⟩
        · rw [← ha, (h6 i' i hi' hi).1 (w2.trans hb.symm)]
        · rw [hBT i' hi']
          rw [e4] at w3
          revert w3
          cases T.testBit (A + i') <;> cases fl <;> cases tb a <;> simp
  · intro w
    rcases w with w | ⟨e, w1, w2, w3, w4⟩
    · exact Or.inl (Or.inl w)
    · cases q : S.testBit e with
      | true => exact Or.inl (Or.inr (Or.inr ⟨e, w1, w2, by rw [q, Bool.true_and, ← hBS e w1 q]; exact w3, w4⟩))
      | false =>
        obtain ⟨i', hi', rfl⟩ := (h3 e w1).1 q
        refine Or.inr ⟨A + i', by omega, ?_, ?_, by rw [h4 i' hi']; exact w4⟩
        · rw [← hb, (h6 i' i hi' hi).2 (w2.trans ha.symm)]
        · rw [e4]
          rw [hBT i' hi'] at w3
          revert w3
          cases T.testBit (A + i') <;> cases fl <;> cases tb a <;> simp
/-- a factor does not change what the rows tell -/
theorem x_mdsz {p : Nat} (hp : x_pm p) {s : Bool} {a : Int} : x_md p (x_s Int s * a) = 0 ↔ x_md p a = 0 := x_mds hp s a
/-- minors, copies -/
theorem x_PVr (hp : x_pm p) (hn : n ≤ 12) (hm : m ≤ 12) (hk : x_up m k) (hUk : ∀ j, j < m → U.testBit (k j) = false) (hSU : ∀ e, e < n → S.testBit e = true → (∀ i, i < m → k i ≠ e)) (h : x_PV p n g pt cc hd tb Z) (hT : x_TR n m 0 m k S U false pt cc hd tb Z pt' cc' hd' tb' Z') : x_PV p m (x_fr m k U g) pt' cc' hd' tb' Z' := by
  obtain ⟨F, _, φ, hm'⟩ := x_hmex hp
  have hbas : ∀ T, ¬ x_md p (x_fr m k U g T) = 0 → T < 2 ^ m ∧ ¬ x_md p (g (x_sd m k T ||| U)) = 0 := fun T w => by
    by_cases q : T < 2 ^ m
    · refine ⟨q, fun z => w ?_⟩
      unfold x_fr
      rw [if_pos q]
      exact (x_mdsz hp).2 z
    · exfalso
      apply w
      unfold x_fr
      rw [if_neg q]
      unfold x_md; split <;> simp
  have hBT : ∀ T i, i < m → (x_sd m k T ||| U).testBit (k i) = (T.testBit (0 + i) ^^ false) := fun T i hi => by
    rw [Nat.testBit_or, hUk i hi, Bool.or_false, x_sdb m hk i hi, Nat.zero_add, Bool.xor_false]
  have hBS : ∀ T e, e < n → S.testBit e = true → (x_sd m k T ||| U).testBit e = U.testBit e := fun T e he q => by
    rw [Nat.testBit_or, x_sdo m (fun j hj => hSU e he q j hj), Bool.false_or]
  have hT2 := hT.2.1
  have hT5 := hT.2.2.2.2.1
  have hT6 := hT.2.2.2.2.2.1
  have hT4 := hT.2.2.2.1
  refine ⟨fun T e y w he hy => ?_, fun T q e x y w hq he b1 b2 hx hy => ?_⟩
  · obtain ⟨w1, w2⟩ := hbas T w
    obtain ⟨a, b, c1, c2, _⟩ := hT5 e he
    rw [Nat.zero_add, hy] at c2
    cases c2
    obtain ⟨d1, d2, d3⟩ := x_chT hT (i := e) he c1 (by rw [Nat.zero_add]; exact hy) (hBT T) (hBS T)
    rw [d1, d3]
    exact h.1 _ (k e) a w2 (hT2 e he) c1
  · obtain ⟨w1, w2⟩ := hbas T w
    obtain ⟨a, b, c1, c2, _⟩ := hT5 q hq
    obtain ⟨a', b', c1', c2', _⟩ := hT5 e he
    rw [Nat.zero_add, hx] at c2
    rw [Nat.zero_add, hy] at c2'
    cases c2
    cases c2'
    obtain ⟨d1, d2, d3⟩ := x_chT hT (i := q) hq c1 (by rw [Nat.zero_add]; exact hx) (hBT T) (hBS T)
    have hB1 : (x_sd m k T ||| U).testBit (k q) = true := by rw [hBT T q hq, Nat.zero_add, b1]; rfl
    have hB2 : (x_sd m k T ||| U).testBit (k e) = false := by rw [hBT T e he, Nat.zero_add, b2]; rfl
    obtain ⟨o1, o2⟩ := h.2 _ (k q) (k e) a a' w2 (hT2 q hq) (hT2 e he) hB1 hB2 c1 c1'
    have hxy : x = y ↔ a = a' := by
      have := hT6 q e hq he
      rw [Nat.zero_add, Nat.zero_add, hx, hy, c1, c1'] at this
      exact ⟨fun z => Option.some.inj (this.1 (by rw [z])), fun z => Option.some.inj (this.2 (by rw [z]))⟩
    have hTq : x_t T q < 2 ^ m := x_tl w1 hq
    have esd : x_sd m k (x_t T q) ||| U = x_t (x_sd m k T ||| U) (k q) := by rw [x_sdt hk hq, x_ort (hUk q hq)]
    refine ⟨fun z => ?_, fun z => ?_⟩
    · obtain ⟨o3, o4⟩ := o1 (hxy.1 z)
      have c3 := hT4 q hq
      have c4 := hT4 e he
      rw [Nat.zero_add] at c3 c4
      refine ⟨by rw [c3, c4]; exact o3, ?_⟩
      rw [d1, d2, d3, c3, c4, Bool.xor_false]
      rw [x_fru hm hk hUk hTq e (by omega), x_fru hm hk hUk hTq q (by omega), if_pos he, if_pos hq, esd]
      rw [← hm'.2.2.2.2.2.2.2] at o4 ⊢
      simp only [hm'.2.2.1] at o4 ⊢
      generalize φ (x_s Int (x_il (x_sd m k (x_t T q)) U)) = s1 at *
      generalize φ (x_s Int (x_xs 12 (fun u => U.testBit u))) = s2 at *
      grind
    · have o3 := o2 (fun y => z (hxy.2 y))
      unfold x_fr
      by_cases q' : x_t (x_t T q) e < 2 ^ m
      · rw [if_pos q', x_mdsz hp, x_sdt hk he, x_sdt hk hq, x_ort (hUk e he), x_ort (hUk q hq)]
        exact o3
      · rw [if_neg q']; unfold x_md; split <;> simp
/-- duals -/
theorem x_PVd (hp : x_pm p) (hn : n ≤ 12) (h : x_PV p n g pt cc hd tb Z) (hT : x_TR n n 0 n (fun i => i) 0 0 true pt cc hd tb Z pt' cc' hd' tb' Z') : x_PV p n (x_fd n g) pt' cc' hd' tb' Z' := by
  obtain ⟨F, _, φ, hm'⟩ := x_hmex hp
  have hbas : ∀ T, ¬ x_md p (x_fd n g T) = 0 → T < 2 ^ n ∧ ¬ x_md p (g (x_co n T)) = 0 := fun T w => by
    by_cases q : T < 2 ^ n
    · refine ⟨q, fun z => w ?_⟩
      unfold x_fd
      rw [if_pos q]
      exact (x_mdsz hp).2 z
    · exfalso
      apply w
      unfold x_fd
      rw [if_neg q]
      unfold x_md; split <;> simp
  have hBT : ∀ T i, i < n → (x_co n T).testBit i = (T.testBit (0 + i) ^^ true) := fun T i hi => by
    rw [x_cob hi, Nat.zero_add, Bool.xor_true]
  have hBS : ∀ T e, e < n → (0 : Nat).testBit e = true → (x_co n T).testBit e = (0 : Nat).testBit e := fun T e he q => by
    rw [Nat.zero_testBit] at q; exact Bool.noConfusion q
  have hT5 := hT.2.2.2.2.1
  have hT6 := hT.2.2.2.2.2.1
  have hT4 := hT.2.2.2.1
  refine ⟨fun T e y w he hy => ?_, fun T q e x y w hq he b1 b2 hx hy => ?_⟩
  · obtain ⟨w1, w2⟩ := hbas T w
    obtain ⟨a, b, c1, c2, _⟩ := hT5 e he
    rw [Nat.zero_add, hy] at c2
    cases c2
    obtain ⟨d1, d2, d3⟩ := x_chT hT (i := e) he c1 (by rw [Nat.zero_add]; exact hy) (hBT T) (hBS T)
    rw [d1, d3]
    exact h.1 _ e a w2 he c1
  · obtain ⟨w1, w2⟩ := hbas T w
    obtain ⟨a, b, c1, c2, _⟩ := hT5 q hq
    obtain ⟨a', b', c1', c2', _⟩ := hT5 e he
    rw [Nat.zero_add, hx] at c2
    rw [Nat.zero_add, hy] at c2'
    cases c2
    cases c2'
    obtain ⟨d1, d2, d3⟩ := x_chT hT (i := q) hq c1 (by rw [Nat.zero_add]; exact hx) (hBT T) (hBS T)
    have hB1 : (x_co n T).testBit q = false := by rw [x_cob hq, b1]; rfl
    have hB2 : (x_co n T).testBit e = true := by rw [x_cob he, b2]; rfl
    obtain ⟨o1, o2⟩ := h.2 _ e q a' a w2 he hq hB2 hB1 c1' c1
    have hxy : x = y ↔ a' = a := by
      have := hT6 e q he hq
      rw [Nat.zero_add, Nat.zero_add, hx, hy, c1, c1'] at this
      exact ⟨fun z => Option.some.inj (this.1 (by rw [z])), fun z => (Option.some.inj (this.2 (by rw [z]))).symm⟩
    have hqe : q ≠ e := fun z => by rw [z, b2] at b1; exact Bool.noConfusion b1
    have hT1 : x_t T q < 2 ^ n := x_tl w1 hq
    have hT2 : x_t (x_t T q) e < 2 ^ n := x_tl hT1 he
    have eco : x_co n (x_t (x_t T q) e) = x_t (x_t (x_co n T) e) q := by rw [x_cot, x_cot, x_tc]
    refine ⟨fun z => ?_, fun z => ?_⟩
    · have haa := hxy.1 z
      subst haa
      obtain ⟨o3, o4⟩ := o1 rfl
      have c3 := hT4 q hq
      have c4 := hT4 e he
      rw [Nat.zero_add] at c3 c4
      refine ⟨by rw [c3, c4]; exact fun y => o3 y.symm, ?_⟩
      rw [d1, d2, d3, c3, c4]
      have ecs : x_cs (x_chn hd pt cc tb n a' (x_co n T)) (cc e) (cc q) = x_cs (x_chn hd pt cc tb n a' (x_co n T)) (cc q) (cc e) := by unfold x_cs; rw [Nat.min_comm, Nat.max_comm]
      have eor : 2 ^ cc e ||| 2 ^ cc q = 2 ^ cc q ||| 2 ^ cc e := Nat.or_comm _ _
      rw [ecs, eor] at o4
      generalize x_chn hd pt cc tb n a' (x_co n T) = C at *
      have u1 : x_u (x_fd n g) (x_t T q) e = x_s Int (x_od (x_t T q) e) * (x_s Int (x_oe (x_t (x_t T q) e)) * g (x_t (x_t (x_co n T) e) q)) := by
        unfold x_u
        rw [if_neg (by rw [x_tbn (fun y => hqe y.symm), b2]; exact Bool.noConfusion)]
        unfold x_fd
        rw [if_pos hT2, eco]
      have u2 : x_u (x_fd n g) (x_t T q) q = x_s Int (x_od (x_t T q) q) * (x_s Int (x_oe T) * g (x_co n T)) := by
        unfold x_u
        rw [if_neg (by rw [x_tbs, b1]; exact Bool.noConfusion), x_tt]
        unfold x_fd
        rw [if_pos w1]
      have u3 : x_u g (x_t (x_co n T) e) q = x_s Int (x_od (x_t (x_co n T) e) q) * g (x_t (x_t (x_co n T) e) q) := by
        unfold x_u
        rw [if_neg (by rw [x_tbn hqe, hB1]; exact Bool.noConfusion)]
      have u4 : x_u g (x_t (x_co n T) e) e = x_s Int (x_od (x_t (x_co n T) e) e) * g (x_co n T) := by
        unfold x_u
        rw [if_neg (by rw [x_tbs, hB2]; exact Bool.noConfusion), x_tt]
      have sg : (((x_od (x_t T q) e ^^ x_oe (x_t (x_t T q) e)) ^^ (x_od (x_t T q) q ^^ x_oe T)) ^^ (x_od (x_t (x_co n T) e) q ^^ x_od (x_t (x_co n T) e) e)) = true := by
        have f1 := x_odco hn w1 hq
        have f2 := x_odco hn w1 he
        rw [x_odt e (show q < 12 by omega), x_odt q (show q < 12 by omega), x_odt q (show e < 12 by omega), x_odt e (show e < 12 by omega), x_oet (show e < 12 by omega), x_oet (show q < 12 by omega), decide_eq_false (Nat.lt_irrefl q), decide_eq_false (Nat.lt_irrefl e)]
        have f3 : (decide (q % 2 = 1) ^^ decide (e % 2 = 1)) = (decide ((n - 1 - q) % 2 = 1) ^^ decide ((n - 1 - e) % 2 = 1)) := by
          rcases Nat.mod_two_eq_zero_or_one q with a1 | a1 <;> rcases Nat.mod_two_eq_zero_or_one e with a2 | a2 <;> rcases Nat.mod_two_eq_zero_or_one (n - 1 - q) with a3 | a3 <;> rcases Nat.mod_two_eq_zero_or_one (n - 1 - e) with a4 | a4 <;> rw [a1, a2, a3, a4] <;> first | rfl | exact absurd (show False by omega) id
        have f4 : decide (e < q) = !decide (q < e) := by
          by_cases v : e < q
          · rw [decide_eq_true v, decide_eq_false (show ¬ q < e by omega)]; rfl
          · rw [decide_eq_false v, decide_eq_true (show q < e by omega)]; rfl
        rw [f4]
        generalize decide (q < e) = v1 at *
        rw [← f1, ← f2] at f3
        generalize x_od T q = v2 at *
        generalize x_od T e = v3 at *
        generalize x_od (x_co n T) q = v4 at *
        generalize x_od (x_co n T) e = v5 at *
        generalize decide (q % 2 = 1) = v6 at *
        generalize decide (e % 2 = 1) = v7 at *
        generalize x_oe T = v8 at *
        clear f1 f2 f4 u1 u2 u3 u4
        revert f3
        revert v1 v2 v3 v4 v5 v6 v7 v8
        decide
      rw [u1, u2]
      rw [u3, u4] at o4
      rw [← hm'.2.2.2.2.2.2.2] at o4 ⊢
      simp only [hm'.2.2.1, x_hms hm'] at o4 ⊢
      rw [show (tb a' ^^ true ^^ x_cs C (cc q) (cc e)) = (true ^^ (tb a' ^^ x_cs C (cc q) (cc e))) by cases tb a' <;> cases x_cs C (cc q) (cc e) <;> rfl, x_sx (R := F)]
      generalize x_od (x_t T q) e = v1 at *
      generalize x_oe (x_t (x_t T q) e) = v2 at *
      generalize x_od (x_t T q) q = v3 at *
      generalize x_oe T = v4 at *
      generalize x_od (x_t (x_co n T) e) q = v5 at *
      generalize x_od (x_t (x_co n T) e) e = v6 at *
      generalize φ (g (x_t (x_t (x_co n T) e) q)) = X at *
      generalize φ (g (x_co n T)) = Y at *
      generalize φ (Z a' C) = Z1 at *
      generalize φ (Z a' (C ^^^ (2 ^ cc q ||| 2 ^ cc e))) = Z2 at *
      generalize x_s F (tb a' ^^ x_cs C (cc q) (cc e)) = s at *
      have e1 : x_s F true = -1 := rfl
      have e0 : x_s F false = 1 := rfl
      cases v1 <;> cases v2 <;> cases v3 <;> cases v4 <;> cases v5 <;> cases v6 <;> first | exact absurd sg (by decide) | (simp only [e1, e0] at o4 ⊢; grind)
    · have o3 := o2 (fun y => z (hxy.2 y))
      unfold x_fd
      rw [if_pos hT2, x_mdsz hp, eco]
      exact o3
end XPV
