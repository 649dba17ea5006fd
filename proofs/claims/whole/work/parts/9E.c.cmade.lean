/-! PURE, the class: a matroid of the pool tells of a ghost form -/
def c_tb (pp : Nat → px_PR) (x : Nat) : Bool := !decide ((pp x).2.2 = 0)
def c_hd (pp : Nat → px_PR) (x : Nat) : Nat := (pp x).2.1.toNatClampNeg
def c_cl (c : Nat → Int32) (e : Nat) : Nat := (c e).toNatClampNeg
def c_Zp (sm : Nat → Nat) (sK : Nat → Nat → Nat → Int) (pp : Nat → px_PR) (x : Nat) : Nat → Int := x_W (sK (pp x).1) (sm (pp x).1)
/-- the columns of one part are others, and none is held -/
def c_CI (pp : Nat → px_PR) (c : Nat → Int32) (pt : Nat → Option Nat) (n : Nat) : Prop := (∀ e e' x, e < n → e' < n → pt e = some x → pt e' = some x → c_cl c e = c_cl c e' → e = e') ∧ (∀ e x, e < n → pt e = some x → (c_hd pp x).testBit (c_cl c e) = false)
/-- parts and columns of n elements -/
def c_PG (np ns : Nat) (pp : Nat → px_PR) (sp sn : Nat → Nat) (c : Nat → Int32) (pt : Nat → Option Nat) (p n : Nat) : Prop := (∀ e, e < n → ∃ x, pt e = some x ∧ x < np ∧ (pp x).1 < ns ∧ sp (pp x).1 = p ∧ sn (pp x).1 ≤ 12 ∧ (∃ k, c e = nI k ∧ k < sn (pp x).1) ∧ (∃ h, (pp x).2.1 = nI h ∧ h < 2 ^ sn (pp x).1)) ∧ (∀ i i' i'', i < i' → i' < i'' → i'' < n → pt i = pt i'' → pt i' = pt i'') ∧ c_CI pp c pt n
def c_PO (np ns : Nat) (pp : Nat → px_PR) : Prop := ∀ x, x < np → ((pp x).2.2 = 0 ∨ (pp x).2.2 = 1) ∧ (pp x).1 < ns
def c_SS (ns : Nat) (ss : Nat → px_SR) (sp sn sm : Nat → Nat) (sK : Nat → Nat → Nat → Int) : Prop := ∀ z, z < ns → c_SR (ss z) (sp z) (sn z) (sm z) (sK z) ∧ x_pm (sp z)
/-- a matroid tells of g -/
def c_G (np ns : Nat) (pp : Nat → px_PR) (sp sn sm : Nat → Nat) (sK : Nat → Nat → Nat → Int) (M : px_MR) (p n r : Nat) (g : Nat → Int) (w : Nat → Int32) : Prop := M.2.1 12 = nI p ∧ x_pm p ∧ x_gh p n r g ∧ x_gx p n g ∧ c_kn M n r (x_bg p g) ∧ (∀ S, S < 2 ^ n → M.2.2.2.1 6 S = x_sgn2 p n r (x_Fg p g) S) ∧ (∀ e, e < n → M.2.2.2.1 3 e = w e) ∧ c_PG np ns pp sp sn (M.2.2.2.1 2) M.2.2.2.2.2 p n ∧ x_PV p n g M.2.2.2.2.2 (c_cl (M.2.2.2.1 2)) (c_hd pp) (c_tb pp) (c_Zp sm sK pp)
/-- arrays of a matroid, whatever it holds -/
def c_vac (M : px_MR) : Prop := 16 ≤ M.2.2.1 6 ∧ M.2.2.1 6 ≤ 4096 ∧ c_p2 (M.2.2.1 6) ∧ 16 ≤ M.2.2.1 7 ∧ M.2.2.1 7 ≤ 4096 ∧ c_p2 (M.2.2.1 7) ∧ (M.2.2.1 8 = 0 ∨ M.2.2.1 8 = 169) ∧ ∀ k, k < 4 → 16 ≤ M.2.2.1 (20 + k) ∧ M.2.2.1 (20 + k) ≤ 4096
theorem c_knv {M : px_MR} {n r : Nat} {b : Nat → Bool} (h : c_kn M n r b) : c_vac M := ⟨h.2.2.2.2.2.2.2.2.2, h.2.2.2.2.2.1, h.2.2.2.2.2.2.2.1, h.1.2.2.2.2.2.1, h.2.2.2.2.2.2.1, h.2.2.2.2.2.2.2.2.1, h.2.2.2.1, fun k hk => ⟨(h.2.2.1 k hk).1, (h.2.2.1 k hk).2.1⟩⟩
section CMD
variable {p n r : Nat} {g : Nat → Int}
theorem x_sgnz (hp : x_pm p) (hg : x_gh p n r g) (S : Nat) : x_sgn2 p n r (x_Fg p g) S = 0 ↔ x_bg p g S = false := by
  have hb : x_bg p g S = false ↔ x_Fg p g S = 0 := by
    rw [x_Fgz]
    unfold x_bg
    by_cases q : x_md p (g S) = 0
    · rw [decide_eq_true q]; exact ⟨fun _ => q, fun _ => rfl⟩
    · rw [decide_eq_false q]; exact ⟨fun w => Bool.noConfusion w, fun w => absurd w q⟩
  rw [hb]
  have hr : ¬ x_n S = r → x_Fg p g S = 0 := fun w => (x_Fgz S).2 (Classical.byContradiction (fun q => w (hg.2.1 S q).2))
  by_cases q : x_n S = r
  · by_cases p0 : p = 0
    · subst p0
      obtain ⟨τ, h1, h2⟩ := x_sgx hg.1 hg
      rw [h2 S q]
      rcases h1 with w | w
      · rw [w, Int32.one_mul]
      · rw [w]
        constructor
        · intro z
          have : (-1 : Int32) * ((-1) * x_Fg 0 g S) = 0 := by rw [z]; decide
          rw [← Int32.mul_assoc, show (-1 : Int32) * (-1) = 1 by decide, Int32.one_mul] at this
          exact this
        · intro z; rw [z]; decide
    · unfold x_sgn2
      rw [if_pos q, if_neg p0]
  · unfold x_sgn2
    rw [if_neg q]
    exact ⟨fun _ => hr q, fun _ => rfl⟩
theorem x_sgn3 (hg : x_gh p n r g) (S : Nat) : c_s3 (x_sgn2 p n r (x_Fg p g) S) := by
  by_cases q : x_n S = r
  · by_cases p0 : p = 0
    · subst p0
      obtain ⟨τ, h1, h2⟩ := x_sgx hg.1 hg
      rw [h2 S q]
      have : c_s3 (x_Fg 0 g S) := by
        unfold x_Fg
        rw [if_pos rfl]; exact x_sg3 _
      unfold c_s3 at *
      rcases h1 with w | w <;> rcases this with z | z | z <;> rw [w, z] <;> decide
    · unfold x_sgn2
      rw [if_pos q, if_neg p0]
      rcases x_Fgp (g := g) p0 S with w | w <;> rw [w] <;> unfold c_s3 <;> decide
  · unfold x_sgn2
    rw [if_neg q]; unfold c_s3; decide
theorem c_pI (hp : x_pm p) : nI p = 0 ↔ p = 0 := by
  have : p < 2 ^ 31 := by rcases hp with w | w <;> omega
  exact nI_eq (b := 0) this (by decide)
/-- a matroid just made -/
theorem c_mnew {M M' M'' : px_MR} (hp : x_pm p) (hg : x_gh p n r g) (hx : x_gx p n g) (hv : c_vac M) (hb : c_bgn M M' (nI p) n (nI r)) (h1 : M''.2.1 = M'.2.1) (h2 : M''.2.2.1 = M'.2.2.1) (h5 : M''.2.2.2.1 5 = M'.2.2.2.1 5) (h6 : ∀ S, S < 2 ^ n → M''.2.2.2.1 6 S = x_sgn2 p n r (x_Fg p g) S) : M''.2.1 12 = nI p ∧ c_kn M'' n r (x_bg p g) ∧ c_len M'' + M.2.2.1 6 = c_len M + max (M.2.2.1 6) (2 ^ n) ∧ M''.2.1 11 = M.2.1 11 := by
  obtain ⟨b1, b2, b3, b4, b5, b6, b7, b8, b9, b10, b11, b12, b13⟩ := hb
  obtain ⟨v1, v2, v3, v4, v5, v6, v7, v8⟩ := hv
  have hn := hg.1
  have h2n : 2 ^ n ≤ 4096 := Nat.pow_le_pow_right (n := 2) (by decide) hn
  have e8 : M''.2.2.1 8 = M.2.2.1 8 := by rw [h2]; exact b8 8 (by decide)
  have e7 : M''.2.2.1 7 = M.2.2.1 7 := by rw [h2]; exact b8 7 (by decide)
  have e6 : M''.2.2.1 6 = max (M.2.2.1 6) (2 ^ n) := by rw [h2]; exact b7
  have e20 : ∀ k, 20 ≤ k → M''.2.2.1 k = M.2.2.1 k := fun k hk => by rw [h2]; exact b8 k (by omega)
  refine ⟨by rw [h1]; exact b1, ⟨⟨by rw [h1]; exact b2, by rw [h1]; exact b3, x_gxM hp hg hx, by rw [e6]; exact Nat.le_max_right _ _, fun S hS => ?_, by rw [e7]; exact v4, by rw [e7]; omega⟩, Or.inl (by rw [h1]; exact b4), fun k hk => ⟨by rw [e20 _ (by omega)]; exact (v8 k hk).1, by rw [e20 _ (by omega)]; exact (v8 k hk).2, Or.inl (by rw [h5]; exact b10 k hk)⟩, by rw [e8]; exact v7, Or.inl (by rw [h1]; exact b5), by rw [e6]; exact Nat.max_le.2 ⟨v2, h2n⟩, by rw [e7]; exact v5, ?_, by rw [e7]; exact v6, by rw [e6]; exact Nat.le_trans v1 (Nat.le_max_left _ _)⟩, ?_, by rw [h1]; exact b6⟩
  · rw [h6 S hS, x_sgnz hp hg S]
    cases x_bg p g S
    · exact ⟨fun w => Bool.noConfusion w, fun w => absurd rfl w⟩
    · exact ⟨fun _ w => Bool.noConfusion w, fun _ => rfl⟩
  · rw [e6]
    rcases Nat.le_total (M.2.2.1 6) (2 ^ n) with z | z
    · rw [Nat.max_eq_right z]; exact ⟨n, rfl⟩
    · rw [Nat.max_eq_left z]; exact v3
  · unfold c_len
    rw [e6, e7, e8, e20 20 (by omega), e20 21 (by omega), e20 22 (by omega), e20 23 (by omega)]
    omega
end CMD
theorem x_hol {s h0 : Nat} {pt : Nat → Option Nat} {cc : Nat → Nat} {P : Nat → Bool} {a : Nat} (h0s : h0 < 2 ^ s) : ∀ n, (∀ e, e < n → pt e = some a → cc e < s) → x_ho h0 pt cc P a n < 2 ^ s
  | 0, _ => h0s
  | n + 1, h => by
    have ih := x_hol (P := P) h0s n (fun e he => h e (by omega))
    show (if pt n = some a ∧ P n = true then x_ho h0 pt cc P a n ||| 2 ^ cc n else x_ho h0 pt cc P a n) < 2 ^ s
    by_cases q : pt n = some a ∧ P n = true
    · rw [if_pos q]
      exact Nat.or_lt_two_pow ih (Nat.pow_lt_pow_right (by decide) (h n (by omega) q.1))
    · rw [if_neg q]; exact ih
section CPG
variable {np ns np' p n m A n' S U : Nat} {pp pp' : Nat → px_PR} {sp sn sm : Nat → Nat} {sK : Nat → Nat → Nat → Int} {c c' c0 : Nat → Int32} {pt pt' pt0 : Nat → Option Nat} {k : Nat → Nat} {fl : Bool} {g : Nat → Int}
theorem c_PGc (h : c_PG np ns pp sp sn c pt p n) : ∀ e, e < n → c e = nI (c_cl c e) ∧ c_cl c e < 12 ∧ ∀ x, pt e = some x → c_cl c e < sn (pp x).1 := fun e he => by
  obtain ⟨x, x1, x2, x3, x4, x5, ⟨k, k1, k2⟩, x6⟩ := h.1 e he
  unfold c_cl
  rw [k1, nI_clamp (show k < 2 ^ 31 by omega)]
  refine ⟨rfl, by omega, fun y hy => ?_⟩
  rw [x1] at hy; cases hy; exact k2
theorem c_PGh (h : c_PG np ns pp sp sn c pt p n) : ∀ e x, e < n → pt e = some x → x < np ∧ (pp x).1 < ns ∧ sp (pp x).1 = p ∧ sn (pp x).1 ≤ 12 ∧ (pp x).2.1 = nI (c_hd pp x) ∧ c_hd pp x < 2 ^ sn (pp x).1 := fun e x he hx => by
  obtain ⟨y, x1, x2, x3, x4, x5, x6, ⟨h, h1, h2⟩⟩ := h.1 e he
  rw [hx] at x1
  cases x1
  have hl : 2 ^ sn (pp x).1 ≤ 2 ^ 12 := Nat.pow_le_pow_right (by decide) x5
  unfold c_hd
  rw [h1, nI_clamp (show h < 2 ^ 31 by omega)]
  exact ⟨x2, x3, x4, x5, rfl, h2⟩
theorem c_PTg (hO : c_PO np ns pp) {M : px_MR} (h : c_PG np ns pp sp sn (M.2.2.2.1 2) M.2.2.2.2.2 p n) : c_PT np pp M n (c_cl (M.2.2.2.1 2)) (c_tb pp) := by
  refine ⟨fun e he => ⟨(c_PGc h e he).1, (c_PGc h e he).2.1⟩, fun x hx => ?_, fun e he => ?_, h.2.1⟩
  · unfold c_tb
    rcases (hO x hx).1 with q | q
    · rw [q]; rfl
    · rw [q]; rfl
  · obtain ⟨x, x1, _⟩ := h.1 e he
    exact ⟨x, x1⟩
/-- parts taken over: what they tell, and that they are right -/
theorem c_TPR (hO : c_PO np ns pp) (h : c_PG np ns pp sp sn c pt p n) (hk1 : ∀ i, i < m → k i < n) (hk2 : ∀ i i', i < i' → i' < m → k i < k i') (hk3 : ∀ e, e < n → (S.testBit e = false ↔ ∃ i, i < m ∧ k i = e)) (hT : c_TP pt c (x_hd pt (c_cl c) S U (c_tb pp) n) (if fl = true then 1 else 0) k A np pp pt0 c0 m np' pp' pt' c') (hA : A + m ≤ n') (hout : ∀ i j, i < m → j < n' → (j < A ∨ A + m ≤ j) → pt' (A + i) ≠ pt' j) :
    c_PO np' ns pp' ∧ x_TR n m A n' k S U fl pt (c_cl c) (c_hd pp) (c_tb pp) (c_Zp sm sK pp) pt' (c_cl c') (c_hd pp') (c_tb pp') (c_Zp sm sK pp') ∧ c_PG np' ns pp' sp sn (fun i => c' (A + i)) (fun i => pt' (A + i)) p m := by
  have hcol := c_PGc h
  have hpart := c_PGh h
  have each : ∀ i, i < m → ∃ a b, pt (k i) = some a ∧ pt' (A + i) = some b ∧ np ≤ b ∧ b < np' ∧ (pp' b).1 = (pp a).1 ∧ c_hd pp' b = c_hd pp a ||| x_ho 0 pt (c_cl c) (fun e => S.testBit e && (U.testBit e ^^ c_tb pp a)) a n ∧ (pp' b).2.1 = nI (c_hd pp' b) ∧ c_hd pp' b < 2 ^ sn (pp a).1 ∧ c_tb pp' b = (c_tb pp a ^^ fl) ∧ ((pp' b).2.2 = 0 ∨ (pp' b).2.2 = 1) := fun i hi => by
    obtain ⟨a, b, t1, t2, t3, t4, t5, t6⟩ := hT.prt i hi
    obtain ⟨a1, a2, a3, a4, a5, a6⟩ := hpart (k i) a (hk1 i hi) t1
    have hol : x_ho 0 pt (c_cl c) (fun e => S.testBit e && (U.testBit e ^^ c_tb pp a)) a n < 2 ^ sn (pp a).1 := x_hol (Nat.two_pow_pos _) n (fun e he hx => (hcol e he).2.2 a hx)
    have hor := Nat.or_lt_two_pow a6 hol
    have h12 : 2 ^ sn (pp a).1 ≤ 2 ^ 12 := Nat.pow_le_pow_right (by decide) a4
    have e1 : (pp' b).2.1 = nI (c_hd pp a ||| x_ho 0 pt (c_cl c) (fun e => S.testBit e && (U.testBit e ^^ c_tb pp a)) a n) := by
      rw [t6]
      show (pp a).2.1 ||| x_hd pt (c_cl c) S U (c_tb pp) n a = _
      rw [a5]
      unfold x_hd
      rw [b_or]
    have e2 : c_hd pp' b = c_hd pp a ||| x_ho 0 pt (c_cl c) (fun e => S.testBit e && (U.testBit e ^^ c_tb pp a)) a n := by
      unfold c_hd at *
      rw [e1, nI_clamp (by omega)]
    have e3 : (pp' b).2.2 = if (pp a).2.2 = (if fl = true then 1 else 0) then 0 else 1 := by rw [t6]
    refine ⟨a, b, t1, t3, t4, t5, by rw [t6], e2, by rw [e2]; exact e1, by rw [e2]; exact hor, ?_, ?_⟩
    · unfold c_tb
      rw [e3]
      rcases (hO a a1).1 with q | q <;> rw [q] <;> cases fl <;> rfl
    · rw [e3]
      by_cases q : (pp a).2.2 = (if fl = true then 1 else 0)
      · rw [if_pos q]; exact Or.inl rfl
      · rw [if_neg q]; exact Or.inr rfl
  refine ⟨fun x hx => ?_, ⟨hA, hk1, hk3, fun i hi => ?_, fun i hi => ?_, hT.same, hout⟩, fun i hi => ?_, fun i i' i'' h1 h2 h3 he => ?_, fun i i' x h1 h2 e1 e2 e3 => ?_, fun i x h1 e1 => ?_⟩
  · by_cases q : x < np
    · rw [hT.low x q]; exact hO x q
    · obtain ⟨i, hi, hp⟩ := hT.onto x (by omega) hx
      obtain ⟨a, b, t1, t2, t3, t4, t5, t6, t7, t8, t9, t10⟩ := each i hi
      rw [hp] at t2
      cases t2
      exact ⟨t10, by rw [t5]; exact (hpart (k i) a (hk1 i hi) t1).2.1⟩
  · unfold c_cl
    rw [hT.col i hi]
  · obtain ⟨a, b, t1, t2, t3, t4, t5, t6, t7, t8, t9, t10⟩ := each i hi
    refine ⟨a, b, t1, t2, t6, t9, ?_⟩
    unfold c_Zp
    rw [t5]
  · obtain ⟨a, b, t1, t2, t3, t4, t5, t6, t7, t8, t9, t10⟩ := each i hi
    obtain ⟨a1, a2, a3, a4, a5, a6⟩ := hpart (k i) a (hk1 i hi) t1
    refine ⟨b, t2, t4, by rw [t5]; exact a2, by rw [t5]; exact a3, by rw [t5]; exact a4, ⟨c_cl c (k i), ?_, ?_⟩, ⟨c_hd pp' b, t7, by rw [t5]; exact t8⟩⟩
    · show c' (A + i) = _
      rw [hT.col i hi]; exact (hcol _ (hk1 i hi)).1
    · rw [t5]; exact (hcol _ (hk1 i hi)).2.2 a t1
  · have q := (hT.same i i'' (by omega) h3).1 he
    have q2 := h.2.1 (k i) (k i') (k i'') (hk2 i i' h1 (by omega)) (hk2 i' i'' h2 h3) (hk1 i'' h3) q
    exact (hT.same i' i'' (by omega) h3).2 q2
  · obtain ⟨a, b, t1, t2, _⟩ := each i h1
    have q := (hT.same i i' h1 h2).1 (by rw [show pt' (A + i) = some x from e1, show pt' (A + i') = some x from e2])
    have e3 : c_cl c' (A + i) = c_cl c' (A + i') := e3
    unfold c_cl at e3
    rw [hT.col i h1, hT.col i' h2] at e3
    have hkk := h.2.2.1 (k i) (k i') a (hk1 i h1) (hk1 i' h2) t1 (by rw [← q]; exact t1) e3
    rcases Nat.lt_trichotomy i i' with w | w | w
    · have := hk2 i i' w h2; omega
    · exact w
    · have := hk2 i' i w h1; omega
  · obtain ⟨a, b, t1, t2, t3, t4, t5, t6, t7, t8, t9, t10⟩ := each i h1
    have e1 : pt' (A + i) = some x := e1
    rw [e1] at t2
    cases t2
    have ec : c_cl (fun i => c' (A + i)) i = c_cl c (k i) := by
      show (c' (A + i)).toNatClampNeg = _
      rw [hT.col i h1]; rfl
    rw [ec, t6, Nat.testBit_or, h.2.2.2 (k i) a (hk1 i h1) t1, Bool.false_or]
    cases hh : (x_ho 0 pt (c_cl c) (fun e => S.testBit e && (U.testBit e ^^ c_tb pp a)) a n).testBit (c_cl c (k i)) with
    | false => rfl
    | true =>
      rcases (x_hob n).1 hh with w | ⟨e, w1, w2, w3, w4⟩
      · rw [Nat.zero_testBit] at w; cases w
      · have hek := h.2.2.1 e (k i) a w1 (hk1 i h1) w2 t1 w4
        rw [hek] at w3
        have hS := (hk3 (k i) (hk1 i h1)).2 ⟨i, h1, rfl⟩
        rw [hS] at w3
        cases w3
end CPG
