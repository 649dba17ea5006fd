/-! PURE: matroids by their bases: ranks, what lies in what other elements span, elements taken as they raise the rank -/
theorem x_nand (S B : Nat) : x_n (S &&& B) = x_cn 12 (fun i => S.testBit i && B.testBit i) := x_cnc 12 (fun i _ => Nat.testBit_and S B i)
def x_mx : Nat → (Nat → Nat) → Nat
  | 0, _ => 0
  | n + 1, f => max (x_mx n f) (f n)
theorem x_mxle {f : Nat → Nat} : ∀ (n k : Nat), k < n → f k ≤ x_mx n f
  | 0, k, h => by omega
  | n + 1, k, h => by
    show f k ≤ max (x_mx n f) (f n)
    by_cases q : k = n
    · rw [q]; omega
    · have := x_mxle (f := f) n k (by omega); omega
theorem x_mxub {f : Nat → Nat} {m : Nat} : ∀ (n : Nat), (∀ k, k < n → f k ≤ m) → x_mx n f ≤ m
  | 0, _ => Nat.zero_le m
  | n + 1, h => by
    show max (x_mx n f) (f n) ≤ m
    have := x_mxub n (fun k hk => h k (by omega))
    have := h n (by omega)
    omega
theorem x_mxex {f : Nat → Nat} : ∀ (n : Nat), 0 < x_mx n f → ∃ k, k < n ∧ f k = x_mx n f
  | 0, h => absurd h (Nat.lt_irrefl 0)
  | n + 1, h => by
    have h : 0 < max (x_mx n f) (f n) := h
    show ∃ k, k < n + 1 ∧ f k = max (x_mx n f) (f n)
    by_cases q : x_mx n f ≤ f n
    · exact ⟨n, by omega, by omega⟩
    · obtain ⟨k, hk, e⟩ := x_mxex (f := f) n (by omega)
      exact ⟨k, by omega, by omega⟩
/-- the rank of a set: the most that a basis has of it -/
def x_rk (b : Nat → Bool) (S : Nat) : Nat := x_mx 4096 (fun B => if b B = true then x_n (S &&& B) else 0)
/-- a matroid of n elements and rank r -/
def x_M (n r : Nat) (b : Nat → Bool) : Prop := n ≤ 12 ∧ (∃ B, b B = true) ∧ (∀ B, b B = true → B < 2 ^ n ∧ x_n B = r) ∧ (∀ B1 B2 e, b B1 = true → b B2 = true → e < 12 → B1.testBit e = true → B2.testBit e = false → ∃ g, g < 12 ∧ B2.testBit g = true ∧ B1.testBit g = false ∧ b (x_t (x_t B1 e) g) = true)
section XM
variable {n r : Nat} {b : Nat → Bool}
theorem x_M12 (h : x_M n r b) {B : Nat} (hB : b B = true) : B < 4096 := Nat.lt_of_lt_of_le (h.2.2.1 B hB).1 (Nat.pow_le_pow_right (by decide) h.1)
theorem x_rkle (h : x_M n r b) (S : Nat) {B : Nat} (hB : b B = true) : x_n (S &&& B) ≤ x_rk b S := by
  have := x_mxle (f := fun B => if b B = true then x_n (S &&& B) else 0) 4096 B (x_M12 h hB)
  simp only [hB, if_true] at this
  exact this
theorem x_rkex (h : x_M n r b) (S : Nat) : ∃ B, b B = true ∧ x_n (S &&& B) = x_rk b S := by
  by_cases q : 0 < x_rk b S
  · obtain ⟨B, hB, e⟩ := x_mxex (f := fun B => if b B = true then x_n (S &&& B) else 0) 4096 q
    by_cases z : b B = true
    · simp only [z, if_true] at e
      exact ⟨B, z, e⟩
    · simp only [if_neg z] at e
      have : x_rk b S = 0 := e.symm
      omega
  · obtain ⟨B, hB⟩ := h.2.1
    have := x_rkle h S hB
    exact ⟨B, hB, by omega⟩
theorem x_rkub {S m : Nat} (hm : ∀ B, b B = true → x_n (S &&& B) ≤ m) : x_rk b S ≤ m := x_mxub 4096 (fun B _ => by
  by_cases z : b B = true
  · simp only [z, if_true]; exact hm B z
  · simp only [if_neg z]; exact Nat.zero_le m)
theorem x_nandle {S T B : Nat} (h : ∀ i, i < 12 → S.testBit i = true → T.testBit i = true) : x_n (S &&& B) ≤ x_n (T &&& B) := by
  rw [x_nand, x_nand]
  refine x_cnle 12 (fun i hi hb => ?_)
  cases h1 : S.testBit i
  · rw [h1] at hb; exact Bool.noConfusion hb
  · rw [h1] at hb
    rw [h i hi h1]; exact hb
theorem x_nandr {S B : Nat} : x_n (S &&& B) ≤ x_n S := by
  rw [x_nand]
  refine x_cnle 12 (fun i hi hb => ?_)
  cases h1 : S.testBit i
  · rw [h1] at hb; exact Bool.noConfusion hb
  · rfl
theorem x_nandb {S B : Nat} : x_n (S &&& B) ≤ x_n B := by
  rw [x_nand]
  refine x_cnle 12 (fun i hi hb => ?_)
  cases h1 : B.testBit i
  · rw [h1, Bool.and_false] at hb; exact Bool.noConfusion hb
  · rfl
theorem x_nant {S B e : Nat} (he : e < 12) (h : S.testBit e = false) : x_n (x_t S e &&& B) = x_n (S &&& B) + (if B.testBit e = true then 1 else 0) := by
  rw [x_nand, x_nand]
  by_cases q : B.testBit e = true
  · rw [if_pos q]
    refine x_cnf 12 he (by show ((x_t S e).testBit e && B.testBit e) = true; rw [x_tbs, h, q]; rfl) (by show (S.testBit e && B.testBit e) = false; rw [h]; rfl) (fun i _ hn => ?_)
    show ((x_t S e).testBit i && B.testBit i) = (S.testBit i && B.testBit i)
    rw [x_tbn hn]
  · rw [if_neg q, Nat.add_zero]
    refine x_cnc 12 (fun i _ => ?_)
    by_cases z : i = e
    · rw [z]
      cases hh : B.testBit e
      · simp
      · exact absurd hh q
    · rw [x_tbn z]
theorem x_rkm (h : x_M n r b) {S T : Nat} (hs : ∀ i, i < 12 → S.testBit i = true → T.testBit i = true) : x_rk b S ≤ x_rk b T := x_rkub (fun _ hB => Nat.le_trans (x_nandle hs) (x_rkle h T hB))
theorem x_rkn (S : Nat) : x_rk b S ≤ x_n S := x_rkub (fun _ _ => x_nandr)
theorem x_rkr (h : x_M n r b) (S : Nat) : x_rk b S ≤ r := x_rkub (fun B hB => by have := x_nandb (S := S) (B := B); have := (h.2.2.1 B hB).2; omega)
theorem x_rk1 (h : x_M n r b) {S e : Nat} (he : e < 12) (hs : S.testBit e = false) : x_rk b (x_t S e) ≤ x_rk b S + 1 := x_rkub (fun B hB => by
  rw [x_nant he hs]
  have := x_rkle h S hB
  split <;> omega)
theorem x_rk0 (h : x_M n r b) {S e : Nat} (he : e < 12) (hs : S.testBit e = false) : x_rk b S ≤ x_rk b (x_t S e) := x_rkm h (fun i _ hb => by
  by_cases z : i = e
  · rw [z, hs] at hb; exact Bool.noConfusion hb
  · rw [x_tbn z, hb])
/-- towards another basis, losing nothing within Z -/
theorem x_tow (h : x_M n r b) {Z B2 : Nat} (h2 : b B2 = true) : ∀ (k B1 : Nat), x_df B1 B2 = k → b B1 = true → ∃ B, b B = true ∧ x_n (Z &&& B2) ≤ x_n (Z &&& B) ∧ ∀ W, (∀ i, i < 12 → W.testBit i = true → Z.testBit i = true) → x_n (W &&& B1) ≤ x_n (W &&& B)
  | 0, B1, hk, h1 => by
    have : B1 = B2 := x_ext (x_M12 h h1) (x_M12 h h2) (x_cneq 12 (x_df0 hk) ((h.2.2.1 B1 h1).2.trans (h.2.2.1 B2 h2).2.symm))
    subst this
    exact ⟨B1, h1, Nat.le_refl _, fun _ _ => Nat.le_refl _⟩
  | k + 1, B1, hk, h1 => by
    by_cases q : x_n (Z &&& B2) ≤ x_n (Z &&& B1)
    · exact ⟨B1, h1, q, fun _ _ => Nat.le_refl _⟩
    · -- some x of B1 is neither in Z nor in B2
      have hx : ∃ x, x < 12 ∧ B1.testBit x = true ∧ Z.testBit x = false ∧ B2.testBit x = false := by
        refine Classical.byContradiction (fun hn => q ?_)
        -- all of B1 outside Z is in B2: as many or more of B2 are outside Z
        have c1 : ∀ B : Nat, x_cn 12 (fun i => B.testBit i) = x_cn 12 (fun i => Z.testBit i && B.testBit i) + x_cn 12 (fun i => !Z.testBit i && B.testBit i) := by
          intro B
          have : ∀ m, x_cn m (fun i => B.testBit i) = x_cn m (fun i => Z.testBit i && B.testBit i) + x_cn m (fun i => !Z.testBit i && B.testBit i) := by
            intro m
            induction m with
            | zero => rfl
            | succ m ih =>
              show x_cn m (fun i => B.testBit i) + (if B.testBit m = true then 1 else 0) = x_cn m (fun i => Z.testBit i && B.testBit i) + (if (Z.testBit m && B.testBit m) = true then 1 else 0) + (x_cn m (fun i => !Z.testBit i && B.testBit i) + (if (!Z.testBit m && B.testBit m) = true then 1 else 0))
              rw [ih]
              generalize Z.testBit m = z
              generalize B.testBit m = y
              cases z <;> cases y <;> simp <;> omega
          exact this 12
        have c2 := c1 B1
        have c3 := c1 B2
        have c4 : x_cn 12 (fun i => !Z.testBit i && B1.testBit i) ≤ x_cn 12 (fun i => !Z.testBit i && B2.testBit i) := x_cnle 12 (fun i hi hb => by
          cases h3 : Z.testBit i
          · rw [h3] at hb
            cases h4 : B2.testBit i
            · exact absurd ⟨i, hi, by simpa using hb, h3, h4⟩ hn
            · rfl
          · rw [h3] at hb; exact Bool.noConfusion hb)
        have c5 := (h.2.2.1 B1 h1).2
        have c6 := (h.2.2.1 B2 h2).2
        rw [x_nand, x_nand]
        have c5 : x_cn 12 (fun i => B1.testBit i) = r := c5
        have c6 : x_cn 12 (fun i => B2.testBit i) = r := c6
        omega
      obtain ⟨x, hx, b1, bz, b2⟩ := hx
      obtain ⟨g, hg, g2, g1, hb⟩ := h.2.2.2 B1 B2 x h1 h2 hx b1 b2
      obtain ⟨B, hB, i1, i2⟩ := x_tow h (Z := Z) h2 k _ (by have := x_dfs hx b1 b2 g2; omega) hb
      refine ⟨B, hB, i1, fun W hW => Nat.le_trans ?_ (i2 W hW)⟩
      rw [x_nand, x_nand]
      refine x_cnle 12 (fun i hi hw => ?_)
      have hWi : W.testBit i = true := by cases h5 : W.testBit i <;> simp_all
      have hBi : B1.testBit i = true := by cases h5 : B1.testBit i <;> simp_all
      have hix : i ≠ x := fun z => by rw [z] at hWi; rw [hW x hx hWi] at bz; exact Bool.noConfusion bz
      have hig : i ≠ g := fun z => by rw [z, g1] at hBi; exact Bool.noConfusion hBi
      show (W.testBit i && (x_t (x_t B1 x) g).testBit i) = true
      rw [x_tbn hig, x_tbn hix, hWi, hBi]; rfl
/-- what raises nothing raises nothing of more -/
theorem x_clo (h : x_M n r b) {X Y e : Nat} (he : e < 12) (hXY : ∀ i, i < 12 → X.testBit i = true → Y.testBit i = true) (hY : Y.testBit e = false) (h0 : x_rk b (x_t X e) = x_rk b X) : x_rk b (x_t Y e) = x_rk b Y := by
  have hX : X.testBit e = false := by
    cases hh : X.testBit e
    · rfl
    · rw [hXY e he hh] at hY; exact Bool.noConfusion hY
  refine Nat.le_antisymm (Nat.not_lt.mp (fun hlt => ?_)) (x_rk0 h he hY)
  obtain ⟨B1, h1, e1⟩ := x_rkex h X
  obtain ⟨B2, h2, e2⟩ := x_rkex h Y
  obtain ⟨B3, h3, e3⟩ := x_rkex h (x_t Y e)
  obtain ⟨B, hB, i1, i2⟩ := x_tow h (Z := Y) h2 _ B1 rfl h1
  obtain ⟨C, hC, j1, j2⟩ := x_tow h (Z := x_t Y e) h3 _ B rfl hB
  have sub : ∀ W : Nat, (∀ i, i < 12 → W.testBit i = true → Y.testBit i = true) → ∀ i, i < 12 → W.testBit i = true → (x_t Y e).testBit i = true := fun W hW i hi hb => by
    have := hW i hi hb
    rw [x_tbn (fun z => by rw [z, hY] at this; exact Bool.noConfusion this), this]
  have k1 := j2 X (sub X hXY)
  have k2 := j2 Y (sub Y (fun _ _ hb => hb))
  have k3 := i2 X hXY
  have k4 := x_rkle h Y hC
  have k5 := x_rkle h (x_t X e) hC
  rw [x_nant he hX] at k5
  have k6 := j1
  rw [x_nant (B := C) he hY] at k6
  by_cases q : C.testBit e = true
  · rw [if_pos q] at k5
    omega
  · rw [if_neg q] at k6
    omega
/-- independent: within a basis -/
theorem x_ind (h : x_M n r b) {S : Nat} (hS : x_rk b S = x_n S) : ∃ B, b B = true ∧ ∀ i, i < 12 → S.testBit i = true → B.testBit i = true := by
  obtain ⟨B, hB, e⟩ := x_rkex h S
  refine ⟨B, hB, fun i hi hb => ?_⟩
  have h1 : x_cn 12 (fun i => S.testBit i && B.testBit i) = x_cn 12 (fun i => S.testBit i) := by rw [← x_nand, e, hS]; rfl
  have := x_cneq 12 (fun i _ hb => by cases h5 : S.testBit i <;> simp_all) h1 i hi
  rw [hb] at this
  simpa using this
theorem x_indr (h : x_M n r b) {S B : Nat} (hB : b B = true) (hS : ∀ i, i < 12 → S.testBit i = true → B.testBit i = true) : x_rk b S = x_n S := by
  refine Nat.le_antisymm (x_rkn S) ?_
  have := x_rkle h S hB
  have e : x_n (S &&& B) = x_n S := by
    rw [x_nand]
    refine x_cnc 12 (fun i hi => ?_)
    cases h5 : S.testBit i
    · rfl
    · rw [hS i hi h5]; rfl
  omega
theorem x_rkall (h : x_M n r b) {S : Nat} (hS : ∀ i, i < n → S.testBit i = true) : x_rk b S = r := by
  refine Nat.le_antisymm (x_rkr h S) ?_
  obtain ⟨B, hB⟩ := h.2.1
  have h1 := x_rkle h S hB
  have h2 := h.2.2.1 B hB
  have e : x_n (S &&& B) = x_n B := by
    rw [x_nand]
    refine x_cnc 12 (fun i hi => ?_)
    cases h5 : B.testBit i
    · simp
    · have : i < n := by
        refine Classical.byContradiction (fun q => ?_)
        rw [x_hi h2.1 (show n ≤ i by omega)] at h5; exact Bool.noConfusion h5
      rw [hS i this]; rfl
  omega
end XM
