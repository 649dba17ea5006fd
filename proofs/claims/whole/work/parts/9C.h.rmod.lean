/-! PURE: modulo p, reduce keeps the space of the rows and makes pivots -/
section RMO
variable {p n R r c : Nat} {a b v : Nat → Int} {M N A : Nat → Nat → Int} {piv : Nat → Nat}
/-- residues -/
def x_rg (p : Nat) (v : Nat → Int) : Prop := ∀ j, 0 ≤ v j ∧ v j < p
/-- a row over the field -/
def x_fq (p : Nat) [NeZero p] (v : Nat → Int) (j : Nat) : Fin p := x_fp p (v j)
theorem x_fpr [NeZero p] {z : Int} (h : 0 ≤ z ∧ z < p) : x_fp p z = 0 ↔ z = 0 := by
  rw [x_fpz, Int.emod_eq_of_lt h.1 h.2]
theorem x_fpmod [NeZero p] (z : Int) : x_fp p (z % (p : Int)) = x_fp p z := x_fpe (by rw [x_fpv, x_fpv, Int.emod_emod])
theorem x_ive [NeZero p] (hp : 1 < p) (hex : ∀ a, 0 < a → a < p → ∃ b, b < p ∧ a * b % p = 1) {z : Int} (h : 0 ≤ z ∧ z < p) (h0 : ¬ z = 0) : x_fp p z * x_fp p (x_inv p z.toNat : Int) = 1 := by
  obtain ⟨b, hb1, hb2⟩ := hex z.toNat (by omega) (by omega)
  have hinv : z.toNat * x_inv p z.toNat % p = 1 := by
    obtain ⟨b', hb1', hb2'⟩ := pk_least (fun b => b < p ∧ z.toNat * b % p = 1) ⟨b, hb1, hb2⟩
    rw [x_inv1 hb1'.1 hb1'.2 (fun d _ h2 q => hb2' d h2 ⟨by omega, q⟩)]
    exact hb1'.2
  rw [← x_fpm]
  refine x_fpe ?_
  rw [x_fpv]
  have e : z * (x_inv p z.toNat : Int) = ((z.toNat * x_inv p z.toNat : Nat) : Int) := by
    rw [Int.natCast_mul, Int.toNat_of_nonneg h.1]
  rw [e, ← Int.natCast_emod, hinv]
  show (1 : Int) = ((1 % p : Nat) : Int)
  rw [Nat.mod_eq_of_lt hp]; rfl
theorem x_tkF [NeZero p] (j : Nat) : x_fq p (x_tk p n a b c) j = x_fq p a j - x_fq p a c * x_fp p (x_inv p (b c).toNat : Int) * x_fq p b j := by
  unfold x_fq x_tk
  rw [if_neg (NeZero.ne p), x_fpmod, Int.sub_eq_add_neg, x_fpa, x_fpn, x_fpm, x_fpm]
  grind
theorem x_tkR [NeZero p] : x_rg p (x_tk p n a b c) := fun j => by
  have h0 : p ≠ 0 := NeZero.ne p
  unfold x_tk
  rw [if_neg h0]
  exact ⟨Int.emod_nonneg _ (by omega), Int.emod_lt_of_pos _ (by omega)⟩
theorem x_tkO [NeZero p] (ha : x_z0 n a) (hb : x_z0 n b) : x_z0 n (x_tk p n a b c) := fun j hj => by
  unfold x_tk
  rw [if_neg (NeZero.ne p), ha j hj, hb j hj, Int.mul_zero]; rfl
/-- where a cleared row is 0 -/
theorem x_tkZ [NeZero p] (hp : 1 < p) (hex : ∀ a, 0 < a → a < p → ∃ b, b < p ∧ a * b % p = 1) (hb : x_rg p b) (h0 : ¬ b c = 0) {j : Nat} : x_tk p n a b c j = 0 ↔ x_fq p a j * x_fq p b c - x_fq p b j * x_fq p a c = 0 := by
  rw [← x_fpr (x_tkR (n := n) (a := a) (b := b) (c := c) j)]
  show x_fq p (x_tk p n a b c) j = 0 ↔ _
  have hi : x_fq p b c * x_fp p (x_inv p (b c).toNat : Int) = 1 := x_ive hp hex (hb c) h0
  rw [x_tkF]
  generalize x_fp p (x_inv p (b c).toNat : Int) = I at *
  generalize x_fq p b c = y at *
  generalize x_fq p a j = u at *
  generalize x_fq p a c = w at *
  generalize x_fq p b j = t at *
  constructor
  · intro h
    have : u * y - t * w = y * (u - w * I * t) + t * w * (y * I - 1) := by grind
    rw [this, h, hi]; grind
  · intro h
    have : u - w * I * t = I * (u * y - t * w) + u * (1 - y * I) := by grind
    rw [this, h, hi]; grind
theorem x_tkQ [NeZero p] {P : (Nat → Fin p) → Prop} (hP : x_cl P) (hbP : P (x_fq p b)) : P (x_fq p (x_tk p n a b c)) ↔ P (x_fq p a) := by
  constructor
  · intro h
    refine hP.2.2.1 _ _ (fun e _ => ?_) (hP.2.1 1 (x_fq p a c * x_fp p (x_inv p (b c).toNat : Int)) _ _ h hbP)
    show 1 * x_fq p (x_tk p n a b c) e + _ * x_fq p b e = x_fq p a e
    rw [x_tkF]; grind
  · intro h
    refine hP.2.2.1 _ _ (fun e _ => ?_) (hP.2.1 1 (- (x_fq p a c * x_fp p (x_inv p (b c).toNat : Int))) _ _ h hbP)
    show 1 * x_fq p a e + _ * x_fq p b e = x_fq p (x_tk p n a b c) e
    rw [x_tkF]; grind
theorem x_elQ [NeZero p] {P : (Nat → Fin p) → Prop} (hP : x_cl P) (hr : r < R) : (∀ i, i < R → P (x_fq p (x_elk p n M r c R i))) ↔ (∀ i, i < R → P (x_fq p (M i))) := by
  have er : x_elk p n M r c R r = M r := by unfold x_elk; rw [if_neg (fun z => z.2.1 rfl)]
  constructor
  · intro h i hi
    have hrP : P (x_fq p (M r)) := by have := h r hr; rw [er] at this; exact this
    have := h i hi
    unfold x_elk at this
    by_cases q : i < R ∧ i ≠ r ∧ M i c ≠ 0
    · rw [if_pos q] at this
      exact (x_tkQ hP hrP).1 this
    · rw [if_neg q] at this; exact this
  · intro h i hi
    unfold x_elk
    by_cases q : i < R ∧ i ≠ r ∧ M i c ≠ 0
    · rw [if_pos q]
      exact (x_tkQ hP (h r hr)).2 (h i hi)
    · rw [if_neg q]; exact h i hi
theorem x_swQ {Q : (Nat → Int) → Prop} {i0 : Nat} (hi : i0 < R) (hr : r < R) : (∀ i, i < R → Q (x_swr M i0 r i)) ↔ (∀ i, i < R → Q (M i)) := x_swrP hi hr
theorem x_pvR [NeZero p] {i0 : Nat} (hp : 1 < p) (hex : ∀ a, 0 < a → a < p → ∃ b, b < p ∧ a * b % p = 1) (hg : ∀ i, i < R → x_rg p (M i)) (h : x_pv n R r c piv M) (hf : x_pf r piv M) (hc : c < n) (hi1 : r ≤ i0) (hi2 : i0 < R) (hne : ¬ M i0 c = 0) : (∀ i, i < R → x_rg p (x_elk p n (x_swr M i0 r) r c R i)) ∧ x_pv n R (r + 1) (c + 1) (fun x => if x = r then c else piv x) (x_elk p n (x_swr M i0 r) r c R) ∧ x_pf (r + 1) (fun x => if x = r then c else piv x) (x_elk p n (x_swr M i0 r) r c R) := by
  have hdom := x_fdom hp hex
  obtain ⟨h1, h2, h3, h4, h5, h6, h7⟩ := h
  have hr : r < R := by omega
  have e1 : ∀ i, i < r → x_swr M i0 r i = M i := fun i hi => by
    unfold x_swr; rw [if_neg (by omega), if_neg (by omega)]
  have er : x_swr M i0 r r = M i0 := by
    unfold x_swr
    by_cases q : r = i0
    · rw [if_pos q]; rw [q]
    · rw [if_neg q, if_pos rfl]
  have ex : ∀ i, i < R → r ≤ i → ∃ i', r ≤ i' ∧ i' < R ∧ x_swr M i0 r i = M i' := fun i q1 q2 => by
    unfold x_swr
    by_cases q : i = i0
    · exact ⟨r, Nat.le_refl r, by omega, by rw [if_pos q]⟩
    · rw [if_neg q]
      by_cases q' : i = r
      · exact ⟨i0, hi1, hi2, by rw [if_pos q']⟩
      · exact ⟨i, q2, q1, by rw [if_neg q']⟩
  generalize hN : x_swr M i0 r = N at *
  have zg : ∀ i, i < R → x_rg p (N i) := fun i hi => by
    by_cases q : i < r
    · rw [e1 i q]; exact hg i hi
    · obtain ⟨i', _, q2, q3⟩ := ex i hi (by omega)
      rw [q3]; exact hg i' q2
  have z4 : ∀ i, i < R → x_z0 n (N i) := fun i hi => by
    by_cases q : i < r
    · rw [e1 i q]; exact h4 i hi
    · obtain ⟨i', _, q2, q3⟩ := ex i hi (by omega)
      rw [q3]; exact h4 i' q2
  have z5 : ∀ i, i < r → (¬ N i (piv i) = 0) ∧ ∀ i', i' < R → i' ≠ i → N i' (piv i) = 0 := fun i hi => by
    refine ⟨by rw [e1 i hi]; exact (h5 i hi).2.1, fun i' q1 q2 => ?_⟩
    by_cases q : i' < r
    · rw [e1 i' q]; exact (h5 i hi).2.2 i' q1 q2
    · obtain ⟨k, w1, w2, w3⟩ := ex i' q1 (by omega)
      rw [w3]; exact (h5 i hi).2.2 k w2 (by omega)
  have z7 : ∀ i, r ≤ i → i < R → ∀ j, j < c → N i j = 0 := fun i q1 q2 j hj => by
    obtain ⟨k, w1, w2, w3⟩ := ex i q2 q1
    rw [w3]; exact h7 k w1 w2 j hj
  have hrc : ¬ N r c = 0 := by rw [er]; exact hne
  have hrc' : ¬ x_fq p (N r) c = 0 := fun q => hrc ((x_fpr (zg r hr c)).1 q)
  have f0 : ∀ i j, N i j = 0 → x_fq p (N i) j = 0 := fun i j q => by unfold x_fq; rw [q, x_fp0]
  -- a cleared row
  have err : x_elk p n N r c R r = N r := by unfold x_elk; rw [if_neg (fun z => z.2.1 rfl)]
  have ek : ∀ k, k < R → k ≠ r → ∀ j, x_elk p n N r c R k j = 0 ↔ x_fq p (N k) j * x_fq p (N r) c - x_fq p (N r) j * x_fq p (N k) c = 0 := fun k q1 q2 j => by
    unfold x_elk
    by_cases q : N k c = 0
    · rw [if_neg (fun z => z.2.2 q), f0 k c q, ← x_fpr (zg k q1 j)]
      show x_fq p (N k) j = 0 ↔ _
      constructor
      · intro w; rw [w]; grind
      · intro w
        have : x_fq p (N k) j * x_fq p (N r) c = 0 := by
          rw [← w]; grind
        exact (hdom.1 _ _ this).resolve_right hrc'
    · rw [if_pos ⟨q1, q2, q⟩]
      exact x_tkZ hp hex (zg r hr) hrc
  have hrg : ∀ i, i < R → x_rg p (x_elk p n N r c R i) := fun i hi => by
    unfold x_elk
    split
    · exact x_tkR
    · exact zg i hi
  refine ⟨hrg, ⟨by omega, by omega, by omega, fun i hi => ?_, fun i hi => ?_, fun i i' q1 q2 => ?_, fun i q1 q2 j hj => ?_⟩, fun i hi j hj => ?_⟩
  · unfold x_elk
    split
    · exact x_tkO (z4 i hi) (z4 r hr)
    · exact z4 i hi
  · by_cases q : i = r
    · subst q
      have ep : (fun x => if x = i then c else piv x) i = c := if_pos rfl
      rw [ep]
      refine ⟨by omega, by rw [err]; exact hrc, fun i' w1 w2 => (ek i' w1 w2 c).2 ?_⟩
      grind
    · have hir : i < r := by omega
      have ep : (fun x => if x = r then c else piv x) i = piv i := if_neg q
      rw [ep]
      have hr0 : N r (piv i) = 0 := (z5 i hir).2 r hr (by omega)
      refine ⟨by have := (h5 i hir).1; omega, fun w => ?_, fun i' w1 w2 => ?_⟩
      · have w3 := (ek i (by omega) q (piv i)).1 w
        rw [f0 r _ hr0] at w3
        have w4 : x_fq p (N i) (piv i) * x_fq p (N r) c = 0 := by rw [← w3]; grind
        rcases hdom.1 _ _ w4 with y | y
        · exact (z5 i hir).1 ((x_fpr (zg i (by omega) (piv i))).1 y)
        · exact hrc' y
      · by_cases w : i' = r
        · rw [w, err]; exact hr0
        · refine (ek i' w1 w (piv i)).2 ?_
          rw [f0 r _ hr0, f0 i' _ ((z5 i hir).2 i' w1 w2)]; grind
  · show (if i = r then c else piv i) < (if i' = r then c else piv i')
    rw [if_neg (show ¬ i = r by omega)]
    by_cases q : i' = r
    · rw [if_pos q]; exact (h5 i (by omega)).1
    · rw [if_neg q]; exact h6 i i' q1 (by omega)
  · refine (ek i q2 (by omega) j).2 ?_
    by_cases q : j = c
    · rw [q]; grind
    · rw [f0 i j (z7 i (by omega) q2 j (by omega)), f0 r j (z7 r (Nat.le_refl r) hr j (by omega))]; grind
  · have hj : j < if i = r then c else piv i := hj
    by_cases q : i = r
    · rw [if_pos q] at hj
      rw [q, err]; exact z7 r (Nat.le_refl r) hr j hj
    · rw [if_neg q] at hj
      have hir : i < r := by omega
      refine (ek i (by omega) q j).2 ?_
      have z1 : N i j = 0 := by rw [e1 i hir]; exact hf i hir j hj
      have z2 : N r j = 0 := z7 r (Nat.le_refl r) hr j (by have := (h5 i hir).1; omega)
      rw [f0 i j z1, f0 r j z2]; grind
/-- rows as reduce leaves them, modulo p -/
def x_RP (p n R r : Nat) [NeZero p] (piv : Nat → Nat) (A K : Nat → Nat → Int) : Prop := r ≤ R ∧ r ≤ n ∧ (∀ i, i < r → piv i < n ∧ K i (piv i) = 1) ∧ (∀ i i', i < r → i' < r → i' ≠ i → K i' (piv i) = 0) ∧ (∀ i i', i < i' → i' < r → piv i < piv i') ∧ (∀ i, i < r → ∀ j, j < piv i → K i j = 0) ∧ (∀ i, i < r → x_z0 n (K i)) ∧ (∀ i, i < r → x_rg p (K i)) ∧ (∀ P : (Nat → Fin p) → Prop, x_cl P → ((∀ i, i < r → P (x_fq p (K i))) ↔ ∀ i, i < R → P (x_fq p (A i))))
theorem x_stF [NeZero p] (j : Nat) : x_fq p (x_stl2 p n a c) j = x_fp p (x_inv p (a c).toNat : Int) * x_fq p a j := by
  unfold x_fq x_stl2
  rw [if_neg (NeZero.ne p), x_fpmod, x_fpm]
  grind
theorem x_stR [NeZero p] : x_rg p (x_stl2 p n a c) := fun j => by
  have h0 : p ≠ 0 := NeZero.ne p
  unfold x_stl2
  rw [if_neg h0]
  exact ⟨Int.emod_nonneg _ (by omega), Int.emod_lt_of_pos _ (by omega)⟩
theorem x_stZ [NeZero p] {j : Nat} (h : a j = 0) : x_stl2 p n a c j = 0 := by
  unfold x_stl2
  rw [if_neg (NeZero.ne p), h, Int.zero_mul, Int.zero_emod]
theorem x_st1 [NeZero p] (hp : 1 < p) (hex : ∀ a, 0 < a → a < p → ∃ b, b < p ∧ a * b % p = 1) (hg : x_rg p a) (h0 : ¬ a c = 0) : x_stl2 p n a c c = 1 := by
  have h1 := x_stF (p := p) (n := n) (a := a) (c := c) c
  have h2 : x_fq p a c * x_fp p (x_inv p (a c).toNat : Int) = 1 := x_ive hp hex (hg c) h0
  have h3 : x_fq p (x_stl2 p n a c) c = 1 := by rw [h1, ← h2]; grind
  have h4 := congrArg (fun z : Fin p => (z.val : Int)) h3
  have h4 : ((x_fp p (x_stl2 p n a c c)).val : Int) = ((1 % p : Nat) : Int) := h4
  have hr := x_stR (p := p) (n := n) (a := a) (c := c) c
  rw [x_fpv, Int.emod_eq_of_lt hr.1 hr.2, Nat.mod_eq_of_lt hp] at h4
  exact h4
theorem x_RPm [NeZero p] (hp : 1 < p) (hex : ∀ a, 0 < a → a < p → ∃ b, b < p ∧ a * b % p = 1) (hg : ∀ i, i < R → x_rg p (M i)) (hv : x_pv n R r n piv M) (hf : x_pf r piv M) (hs : ∀ P : (Nat → Fin p) → Prop, x_cl P → ((∀ i, i < R → P (x_fq p (M i))) ↔ ∀ i, i < R → P (x_fq p (A i)))) : x_RP p n R r piv A (x_all2 p n r piv M) := by
  obtain ⟨h1, h2, h3, h4, h5, h6, h7⟩ := hv
  have e : ∀ i, i < r → x_all2 p n r piv M i = x_stl2 p n (M i) (piv i) := fun i hi => by unfold x_all2; rw [if_pos hi]
  refine ⟨h1, h2, fun i hi => ⟨(h5 i hi).1, ?_⟩, fun i i' q1 q2 q3 => ?_, h6, fun i hi j hj => ?_, fun i hi j hj => ?_, fun i hi => ?_, fun P hP => ?_⟩
  · rw [e i hi]; exact x_st1 hp hex (hg i (by omega)) (h5 i hi).2.1
  · rw [e i' q2]; exact x_stZ ((h5 i q1).2.2 i' (by omega) q3)
  · rw [e i hi]; exact x_stZ (hf i hi j hj)
  · rw [e i hi]; exact x_stZ (h4 i (by omega) j hj)
  · rw [e i hi]; exact x_stR
  · rw [← hs P hP]
    constructor
    · intro w i hi
      by_cases q : i < r
      · have h := w i q
        rw [e i q] at h
        have h2 : x_fq p (M i) (piv i) * x_fp p (x_inv p (M i (piv i)).toNat : Int) = 1 := x_ive hp hex (hg i hi _) (h5 i q).2.1
        refine hP.2.2.1 _ _ (fun e' _ => ?_) (x_clm hP (x_fq p (M i) (piv i)) h)
        show x_fq p (M i) (piv i) * x_fq p (x_stl2 p n (M i) (piv i)) e' = x_fq p (M i) e'
        rw [x_stF]
        generalize x_fq p (M i) (piv i) = y at *
        generalize x_fp p (x_inv p (M i (piv i)).toNat : Int) = I at *
        have : y * (I * x_fq p (M i) e') = (y * I) * x_fq p (M i) e' := by grind
        rw [this, h2]; grind
      · refine hP.2.2.1 _ _ (fun e' _ => ?_) hP.1
        show 0 = x_fp p (M i e')
        by_cases z : e' < n
        · rw [h7 i (by omega) hi e' z, x_fp0]
        · rw [h4 i hi e' (by omega), x_fp0]
    · intro w i hi
      rw [e i hi]
      refine hP.2.2.1 _ _ (fun e' _ => ?_) (x_clm hP (x_fp p (x_inv p (M i (piv i)).toNat : Int)) (w i (by omega)))
      exact (x_stF e').symm
/-- reduce modulo p -/
theorem r_redP {nv : Nat → px_NV} {iv gs gp : Nat → Int32} {post : (Nat → Int32) → (Nat → Int32) → (Nat → Int32) → (Nat → px_NV) → Prop} [NeZero p] (hp : 1 < p) (hp2 : p < 256) (hex : ∀ a, 0 < a → a < p → ∃ b, b < p ∧ a * b % p = 1) (hiv : iv 12 = nI p) (hiv1 : iv 11 = nI n) (hiv0 : iv 10 = nI R) (hR : R ≤ 13) (hn : n ≤ 12) (hX : r_X p n R gs nv A) (hz : ∀ i, i < R → x_z0 n (A i)) (hg : ∀ i, i < R → x_rg p (A i))
    (h : ∀ r piv K gs' gp' nv', x_RP p n R r piv A K → r_X p n r gs' nv' K → (∀ i, i < r → gp' i = nI (piv i)) → post (va_up iv 10 (nI r)) gs' gp' nv') : w55_wp post iv gs gp nv := by
  have hp0 : p ≠ 0 := by omega
  refine r_reduce (p := p) (n := n) (R := R) (M := A) (Inv := fun r c piv M => (∀ i, i < R → x_rg p (M i)) ∧ x_pv n R r c piv M ∧ x_pf r piv M ∧ (∀ P : (Nat → Fin p) → Prop, x_cl P → ((∀ i, i < R → P (x_fq p (M i))) ↔ ∀ i, i < R → P (x_fq p (A i))))) (piv0 := fun _ => 0) (Or.inr ⟨hp, hp2⟩) hiv hiv1 hiv0 hR hn hX ⟨hg, x_pv0 hz, fun i hi => absurd hi (Nat.not_lt_zero i), fun P _ => Iff.rfl⟩ (fun _ => hex) (fun r c piv M hI => ?_) (fun r c piv M hI hc hzz => ?_) (fun r c piv M i hI hc hi1 hi2 hne _ => ?_) (fun r piv M gs' gp' nv' hI hX' hg' => ?_)
  · obtain ⟨i0, i1, i2, i3⟩ := hI
    exact ⟨i1.1, fun e => absurd e hp0, fun i hi => ⟨by have := (i1.2.2.2.2.1 i hi).1; have := i1.2.2.1; omega, (i1.2.2.2.2.1 i hi).2.1⟩⟩
  · obtain ⟨i0, i1, i2, i3⟩ := hI
    exact ⟨i0, x_pvS i1 hc hzz, i2, i3⟩
  · obtain ⟨i0, i1, i2, i3⟩ := hI
    have hr : r < R := by omega
    obtain ⟨a1, a2, a3⟩ := x_pvR hp hex i0 i1 i2 hc hi1 hi2 hne
    refine ⟨a1, a2, a3, fun P hP => ?_⟩
    rw [x_elQ hP hr, x_swQ (Q := fun v => P (x_fq p v)) hi2 hr]
    exact i3 P hP
  · obtain ⟨i0, i1, i2, i3⟩ := hI
    exact h r piv _ gs' gp' nv' (x_RPm hp hex i0 i1 i2 i3) hX' hg'
end RMO
