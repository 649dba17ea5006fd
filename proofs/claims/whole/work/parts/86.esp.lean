/-! PURE: spaces of rows; a form of a space: what it leaves over lies in the space, and a row of the space that is 0 on a basis is 0. Two such forms of one space differ by a factor -/
def x_dom (R : Type) [Lean.Grind.CommRing R] : Prop := (∀ a b : R, a * b = 0 → a = 0 ∨ b = 0) ∧ ¬ (1 : R) = 0
theorem x_sne {R : Type} [Lean.Grind.CommRing R] {b : Bool} {x : R} (h : x_s R b * x = 0) : x = 0 := by
  have := x_ss (R := R) b
  grind
theorem x_sne' {R : Type} [Lean.Grind.CommRing R] {b : Bool} {x : R} (h : ¬ x = 0) : ¬ x_s R b * x = 0 := fun q => h (x_sne q)
def x_cl {R : Type} [Lean.Grind.CommRing R] (P : (Nat → R) → Prop) : Prop := P (fun _ => 0) ∧ (∀ (a b : R) (u v : Nat → R), P u → P v → P (fun e => a * u e + b * v e)) ∧ (∀ u v : Nat → R, (∀ e, e < 12 → u e = v e) → P u → P v) ∧ (∀ (c : R) (u : Nat → R), ¬ c = 0 → P (fun e => c * u e) → P u)
def x_sp {R : Type} [Lean.Grind.CommRing R] (rows : (Nat → R) → Prop) (v : Nat → R) : Prop := ∀ P : (Nat → R) → Prop, x_cl P → (∀ r, rows r → P r) → P v
theorem x_spc {R : Type} [Lean.Grind.CommRing R] (rows : (Nat → R) → Prop) : x_cl (x_sp rows) :=
  ⟨fun P h _ => h.1, fun a b u v hu hv P h hr => h.2.1 a b u v (hu P h hr) (hv P h hr), fun u v he hu P h hr => h.2.2.1 u v he (hu P h hr), fun c u hc hu P h hr => h.2.2.2 c u hc (hu P h hr)⟩
theorem x_spr {R : Type} [Lean.Grind.CommRing R] {rows : (Nat → R) → Prop} {r : Nat → R} (h : rows r) : x_sp rows r := fun _ _ hr => hr r h
theorem x_cls {R : Type} [Lean.Grind.CommRing R] {P : (Nat → R) → Prop} (h : x_cl P) (f : Nat → Nat → R) : ∀ (n : Nat), (∀ i, i < n → P (f i)) → P (fun e => x_sm n (fun i => f i e))
  | 0, _ => h.1
  | n + 1, hf => h.2.2.1 _ _ (fun e _ => by show 1 * x_sm n (fun i => f i e) + 1 * f n e = x_sm n (fun i => f i e) + f n e; grind) (h.2.1 1 1 _ _ (x_cls h f n (fun i hi => hf i (by omega))) (hf n (by omega)))
theorem x_clm {R : Type} [Lean.Grind.CommRing R] {P : (Nat → R) → Prop} (h : x_cl P) (a : R) {u : Nat → R} (hu : P u) : P (fun e => a * u e) := h.2.2.1 _ _ (fun e _ => by show a * u e + 0 * u e = a * u e; grind) (h.2.1 a 0 u u hu hu)
/-- what the wedge of rows leaves over lies where the rows do -/
theorem x_uin {R : Type} [Lean.Grind.CommRing R] {P : (Nat → R) → Prop} (h : x_cl P) : ∀ (rs : List (Nat → R)), (∀ r, r ∈ rs → P r) → ∀ T, P (x_u (x_wd rs) T)
  | [], _, T => h.2.2.1 _ _ (fun e _ => by
      show 0 = x_u (x_wd []) T e
      unfold x_u
      by_cases q : T.testBit e = true
      · rw [if_pos q]
      · rw [if_neg q]
        have : ¬ x_t T e = 0 := fun z => by
          have := x_tbs T e
          rw [z, Nat.zero_testBit] at this
          cases hh : T.testBit e
          · rw [hh] at this; exact Bool.noConfusion this
          · exact q hh
        show 0 = x_s R (x_od T e) * (if x_t T e = 0 then 1 else 0)
        rw [if_neg this]; grind) h.1
  | r :: rs, hr, T => by
    have ih := x_uin h rs (fun s hs => hr s (List.mem_cons_of_mem _ hs))
    have h1 : P (fun e => x_sm 12 (fun g => (if T.testBit g = true then x_s R (x_od T g) * r g * x_u (x_wd rs) (x_t T g) e else 0))) := x_cls h (fun g e => if T.testBit g = true then x_s R (x_od T g) * r g * x_u (x_wd rs) (x_t T g) e else 0) 12 (fun g _ => by
      by_cases q : T.testBit g = true
      · refine h.2.2.1 _ _ (fun e _ => ?_) (x_clm h (x_s R (x_od T g) * r g) (ih (x_t T g)))
        simp only [if_pos q]
      · refine h.2.2.1 _ _ (fun e _ => ?_) h.1
        simp only [if_neg q])
    refine h.2.2.1 _ _ (fun e he => ?_) (h.2.1 (x_wd rs T) (-1) r _ (hr r List.mem_cons_self) h1)
    show _ = x_u (x_w r (x_wd rs)) T e
    rw [x_uw r (x_wd rs) T e he]
    grind
/-- the rows whose wedge with a form is 0 -/
def x_Z {R : Type} [Lean.Grind.CommRing R] (f : Nat → R) (v : Nat → R) : Prop := ∀ S, x_w v f S = 0
theorem x_Zc {R : Type} [Lean.Grind.CommRing R] (hd : x_dom R) (f : Nat → R) : x_cl (x_Z f) := by
  refine ⟨fun S => ?_, fun a b u v hu hv S => ?_, fun u v he hu S => ?_, fun c u hc hu S => ?_⟩
  · refine x_sm0 12 (fun e _ => ?_)
    by_cases q : S.testBit e = true
    · rw [if_pos q]; grind
    · rw [if_neg q]
  · rw [x_wlin, hu S, hv S]; grind
  · rw [← x_wcg f S he]; exact hu S
  · have h1 := hu S
    have h2 : x_w (fun e => c * u e) f S = c * x_w u f S := by
      rw [x_wcg (s := fun e => c * u e + 0 * u e) f S (fun e _ => by grind), x_wlin]; grind
    rw [h2] at h1
    exact (hd.1 _ _ h1).resolve_left hc
theorem x_Z3 {R : Type} [Lean.Grind.CommRing R] (hd : x_dom R) {f v : Nat → R} (hv : x_Z f v) {S : Nat} (hS : ¬ f S = 0) (h0 : ∀ e, e < 12 → S.testBit e = true → v e = 0) : ∀ e, e < 12 → v e = 0 := by
  intro e he
  by_cases q : S.testBit e = true
  · exact h0 e he q
  · have q' : S.testBit e = false := by cases h : S.testBit e <;> simp_all
    have h1 := hv (x_t S e)
    unfold x_w at h1
    rw [x_sm1 (k := e) 12 he (fun g hg hn => ?_)] at h1
    · rw [x_tbs, q', if_pos (by simp), x_tt] at h1
      have h2 : x_s R (x_od (x_t S e) e) * (v e * f S) = 0 := by grind
      exact (hd.1 _ _ (x_sne h2)).resolve_right hS
    · by_cases q2 : (x_t S e).testBit g = true
      · rw [if_pos q2, h0 g hg (by rw [x_tbn hn] at q2; exact q2)]; grind
      · rw [if_neg q2]
/-- the form of rows: all that comes of the rows has the wedge 0 with it -/
theorem x_wdZ {R : Type} [Lean.Grind.CommRing R] (hd : x_dom R) (rs : List (Nat → R)) {v : Nat → R} (h : x_sp (fun r => r ∈ rs) v) : x_Z (x_wd rs) v := h _ (x_Zc hd _) (fun r hr S => x_wd0 rs S hr)
def x_E2 {R : Type} [Lean.Grind.CommRing R] (P : (Nat → R) → Prop) (f : Nat → R) : Prop := ∀ S e, ¬ f S = 0 → e < 12 → S.testBit e = true → P (x_u f (x_t S e))
def x_E3 {R : Type} [Lean.Grind.CommRing R] (P : (Nat → R) → Prop) (f : Nat → R) : Prop := ∀ S v, ¬ f S = 0 → P v → (∀ e, e < 12 → S.testBit e = true → v e = 0) → ∀ e, e < 12 → v e = 0
/-- how many of n places hold -/
def x_cn : Nat → (Nat → Bool) → Nat
  | 0, _ => 0
  | n + 1, f => x_cn n f + (if f n = true then 1 else 0)
theorem x_cnc {f g : Nat → Bool} : ∀ (n : Nat), (∀ i, i < n → f i = g i) → x_cn n f = x_cn n g
  | 0, _ => rfl
  | n + 1, h => by
    show x_cn n f + _ = x_cn n g + _
    rw [x_cnc n (fun i hi => h i (by omega)), h n (by omega)]
theorem x_cnf {f g : Nat → Bool} {k : Nat} : ∀ (n : Nat), k < n → f k = true → g k = false → (∀ i, i < n → i ≠ k → f i = g i) → x_cn n f = x_cn n g + 1
  | 0, h, _, _, _ => by omega
  | n + 1, h, hf, hg, he => by
    show x_cn n f + _ = x_cn n g + _ + 1
    by_cases hk : k = n
    · subst hk
      rw [x_cnc k (fun i hi => he i (by omega) (by omega)), hf, hg]
      simp
    · rw [x_cnf n (by omega) hf hg (fun i hi hn => he i (by omega) hn), he n (by omega) (fun q => hk q.symm)]
      omega
theorem x_cnz {f : Nat → Bool} : ∀ (n : Nat), x_cn n f = 0 → ∀ i, i < n → f i = false
  | 0, _, i, h => by omega
  | n + 1, h, i, hi => by
    have h : x_cn n f + (if f n = true then 1 else 0) = 0 := h
    by_cases q : f n = true
    · rw [if_pos q] at h; omega
    · by_cases hk : i = n
      · rw [hk]; cases hh : f n <;> simp_all
      · exact x_cnz n (by omega) i (by omega)
theorem x_cnle {f g : Nat → Bool} : ∀ (n : Nat), (∀ i, i < n → f i = true → g i = true) → x_cn n f ≤ x_cn n g
  | 0, _ => Nat.le_refl 0
  | n + 1, h => by
    show x_cn n f + _ ≤ x_cn n g + _
    have := x_cnle n (fun i hi => h i (by omega))
    by_cases q : f n = true
    · rw [if_pos q, if_pos (h n (by omega) q)]; omega
    · rw [if_neg q]; omega
theorem x_cneq {f g : Nat → Bool} : ∀ (n : Nat), (∀ i, i < n → f i = true → g i = true) → x_cn n f = x_cn n g → ∀ i, i < n → f i = g i
  | 0, _, _, i, h => by omega
  | n + 1, h, he, i, hi => by
    have he : x_cn n f + (if f n = true then 1 else 0) = x_cn n g + (if g n = true then 1 else 0) := he
    have h1 := x_cnle n (fun i hi => h i (by omega))
    by_cases q : f n = true
    · rw [if_pos q, if_pos (h n (by omega) q)] at he
      by_cases hk : i = n
      · rw [hk, q, h n (by omega) q]
      · exact x_cneq n (fun i hi => h i (by omega)) (by omega) i (by omega)
    · rw [if_neg q] at he
      by_cases q2 : g n = true
      · rw [if_pos q2] at he; omega
      · rw [if_neg q2] at he
        by_cases hk : i = n
        · rw [hk]; cases hh : f n <;> cases hh2 : g n <;> simp_all
        · exact x_cneq n (fun i hi => h i (by omega)) (by omega) i (by omega)
/-- how many elements a set has -/
def x_n (S : Nat) : Nat := x_cn 12 (fun i => S.testBit i)
/-- how many of the first the second has not -/
def x_df (S T : Nat) : Nat := x_cn 12 (fun i => S.testBit i && !T.testBit i)
theorem x_nt1 {S e : Nat} (he : e < 12) (h : S.testBit e = true) : x_n S = x_n (x_t S e) + 1 := x_cnf 12 he h (by show (x_t S e).testBit e = false; rw [x_tbs, h]; rfl) (fun i _ hn => (x_tbn hn).symm)
theorem x_nt0 {S e : Nat} (he : e < 12) (h : S.testBit e = false) : x_n (x_t S e) = x_n S + 1 := x_cnf 12 he (by show (x_t S e).testBit e = true; rw [x_tbs, h]; rfl) h (fun i _ hn => x_tbn hn)
theorem x_dfs {S T e g : Nat} (he : e < 12) (h1 : S.testBit e = true) (h2 : T.testBit e = false) (h3 : T.testBit g = true) : x_df S T = x_df (x_t (x_t S e) g) T + 1 := by
  have heg : e ≠ g := fun z => by rw [z, h3] at h2; exact Bool.noConfusion h2
  refine x_cnf 12 he (by show (S.testBit e && !T.testBit e) = true; rw [h1, h2]; rfl) (by show ((x_t (x_t S e) g).testBit e && !T.testBit e) = false; rw [x_tbn heg, x_tbs, h1]; rfl) (fun i _ hn => ?_)
  show (S.testBit i && !T.testBit i) = ((x_t (x_t S e) g).testBit i && !T.testBit i)
  by_cases hig : i = g
  · rw [hig, h3]; simp
  · rw [x_tbn hig, x_tbn hn]
theorem x_dfp {S T : Nat} (h : ¬ x_df S T = 0) : ∃ e, e < 12 ∧ S.testBit e = true ∧ T.testBit e = false := by
  refine Classical.byContradiction (fun hn => h ?_)
  have : x_df S T = x_cn 12 (fun _ => false) := x_cnc 12 (fun i hi => by
    cases h1 : S.testBit i
    · rfl
    · cases h2 : T.testBit i
      · exact absurd ⟨i, hi, h1, h2⟩ hn
      · rfl)
  rw [this]; rfl
/-- the exchange -/
theorem x_ex {R : Type} [Lean.Grind.CommRing R] {P : (Nat → R) → Prop} {f1 f2 : Nat → R} (h2 : x_E2 P f1) (h3 : x_E3 P f2) {S1 S2 e : Nat} (n1 : ¬ f1 S1 = 0) (n2 : ¬ f2 S2 = 0) (he : e < 12) (b1 : S1.testBit e = true) (b2 : S2.testBit e = false) : ∃ g, g < 12 ∧ S2.testBit g = true ∧ S1.testBit g = false ∧ ¬ f1 (x_t (x_t S1 e) g) = 0 := by
  have hv : ¬ x_u f1 (x_t S1 e) e = 0 := by
    unfold x_u
    rw [x_tbs, b1, if_neg (by simp), x_tt]
    exact x_sne' n1
  refine Classical.byContradiction (fun hn => hv (h3 S2 _ n2 (h2 S1 e n1 he b1) (fun g hg bg => ?_) e he))
  refine Classical.byContradiction (fun hz => hn ?_)
  have hge : g ≠ e := fun z => by rw [z, b2] at bg; exact Bool.noConfusion bg
  unfold x_u at hz
  by_cases q : (x_t S1 e).testBit g = true
  · rw [if_pos q] at hz; exact absurd rfl hz
  · rw [if_neg q] at hz
    refine ⟨g, hg, bg, ?_, fun z => hz (by rw [z]; grind)⟩
    rw [x_tbn hge] at q
    cases h : S1.testBit g <;> simp_all
theorem x_into {R : Type} [Lean.Grind.CommRing R] {P : (Nat → R) → Prop} {f1 f2 : Nat → R} (h2 : x_E2 P f1) (h3 : x_E3 P f2) {S2 : Nat} (n2 : ¬ f2 S2 = 0) : ∀ (k S1 : Nat), x_df S1 S2 = k → ¬ f1 S1 = 0 → ∃ S, ¬ f1 S = 0 ∧ x_df S S2 = 0
  | 0, S1, hk, n1 => ⟨S1, n1, hk⟩
  | k + 1, S1, hk, n1 => by
    obtain ⟨e, he, b1, b2⟩ := x_dfp (S := S1) (T := S2) (by omega)
    obtain ⟨g, hg, c2, c1, hn⟩ := x_ex h2 h3 n1 n2 he b1 b2
    exact x_into h2 h3 n2 k _ (by have := x_dfs he b1 b2 c2; omega) hn
theorem x_df0 {S T : Nat} (h : x_df S T = 0) : ∀ i, i < 12 → S.testBit i = true → T.testBit i = true := by
  intro i hi b
  have := x_cnz 12 h i hi
  cases hh : T.testBit i
  · rw [b, hh] at this; exact Bool.noConfusion this
  · rfl
/-- as many elements -/
theorem x_le {R : Type} [Lean.Grind.CommRing R] {P : (Nat → R) → Prop} {f1 f2 : Nat → R} (h2 : x_E2 P f1) (h3 : x_E3 P f2) {r1 r2 : Nat} (z1 : ∀ S, ¬ f1 S = 0 → x_n S = r1) (z2 : ∀ S, ¬ f2 S = 0 → x_n S = r2) {S1 S2 : Nat} (n1 : ¬ f1 S1 = 0) (n2 : ¬ f2 S2 = 0) : r1 ≤ r2 := by
  obtain ⟨S, hS, h0⟩ := x_into h2 h3 n2 _ S1 rfl n1
  rw [← z1 S hS, ← z2 S2 n2]
  exact x_cnle 12 (x_df0 h0)
theorem x_near {R : Type} [Lean.Grind.CommRing R] {P : (Nat → R) → Prop} {f1 f2 : Nat → R} (hc : x_cl P) (h2 : x_E2 P f1) (h2' : x_E2 P f2) (h3 : x_E3 P f2) {T f g : Nat} (n1 : ¬ f1 T = 0) (n2 : ¬ f2 T = 0) (hf : f < 12) (hg : g < 12) (bf : T.testBit f = true) (bg : T.testBit g = false) : f2 T * f1 (x_t (x_t T f) g) = f1 T * f2 (x_t (x_t T f) g) := by
  have hgf : g ≠ f := fun z => by rw [z, bf] at bg; exact Bool.noConfusion bg
  have hv := hc.2.1 (f2 T) (- f1 T) _ _ (h2 T f n1 hf bf) (h2' T f n2 hf bf)
  have h0 := h3 T _ n2 hv (fun e he be => ?_) g hg
  · have hq : (x_t T f).testBit g = false := by rw [x_tbn hgf, bg]
    simp only [x_u, hq] at h0
    have h1 : x_s R (x_od (x_t T f) g) * (f2 T * f1 (x_t (x_t T f) g) - f1 T * f2 (x_t (x_t T f) g)) = 0 := by
      simp only [Bool.false_eq_true, if_false] at h0
      grind
    have := x_sne h1
    grind
  · by_cases hef : e = f
    · subst hef
      have hq : (x_t T e).testBit e = false := by rw [x_tbs, be]; rfl
      simp only [x_u, hq, x_tt, Bool.false_eq_true, if_false]
      grind
    · have hq : (x_t T f).testBit e = true := by rw [x_tbn hef, be]
      simp only [x_u, hq, if_true]
      grind
/-- two forms of one space differ by a factor -/
theorem x_same {R : Type} [Lean.Grind.CommRing R] (hd : x_dom R) {P : (Nat → R) → Prop} {f1 f2 : Nat → R} (hc : x_cl P) (h2 : x_E2 P f1) (h2' : x_E2 P f2) (h3 : x_E3 P f2) {r : Nat} (z1 : ∀ S, ¬ f1 S = 0 → S < 2 ^ 12 ∧ x_n S = r) (z2 : ∀ S, ¬ f2 S = 0 → S < 2 ^ 12 ∧ x_n S = r) (n1 : ∃ S, ¬ f1 S = 0) (n2 : ∃ S, ¬ f2 S = 0) : ∃ a b : R, ¬ a = 0 ∧ ¬ b = 0 ∧ ∀ S, a * f1 S = b * f2 S := by
  obtain ⟨S1, n1⟩ := n1
  obtain ⟨S2, n2⟩ := n2
  obtain ⟨S, hS, h0⟩ := x_into h2 h3 n2 _ S1 rfl n1
  have hSS : S = S2 := x_ext (z1 S hS).1 (z2 S2 n2).1 (x_cneq 12 (x_df0 h0) ((z1 S hS).2.trans (z2 S2 n2).2.symm))
  subst hSS
  refine ⟨f2 S, f1 S, n2, hS, ?_⟩
  have main : ∀ (k T : Nat), x_df T S = k → f2 S * f1 T = f1 S * f2 T := by
    intro k
    induction k with
    | zero =>
      intro T hk
      by_cases q1 : f1 T = 0
      · by_cases q2 : f2 T = 0
        · rw [q1, q2]; grind
        · have : T = S := x_ext (z2 T q2).1 (z2 S n2).1 (x_cneq 12 (x_df0 hk) ((z2 T q2).2.trans (z2 S n2).2.symm))
          rw [this]; grind
      · have : T = S := x_ext (z1 T q1).1 (z2 S n2).1 (x_cneq 12 (x_df0 hk) ((z1 T q1).2.trans (z2 S n2).2.symm))
        rw [this]; grind
    | succ k ih =>
      intro T hk
      obtain ⟨e, he, b1, b2⟩ := x_dfp (S := T) (T := S) (by omega)
      have go : ∀ g, g < 12 → S.testBit g = true → T.testBit g = false → ¬ f1 (x_t (x_t T e) g) = 0 → ¬ f2 (x_t (x_t T e) g) = 0 → f2 S * f1 T = f1 S * f2 T := by
        intro g hg c2 c1 m1 m2
        have hp := ih (x_t (x_t T e) g) (by have := x_dfs he b1 b2 c2; omega)
        have heg : e ≠ g := fun z => by rw [z, c1] at b1; exact Bool.noConfusion b1
        have hn := x_near hc h2 h2' h3 (T := x_t (x_t T e) g) (f := g) (g := e) m1 m2 hg he (by rw [x_tbs, x_tbn (fun z => heg z.symm), c1]; rfl) (by rw [x_tbn heg, x_tbs, b1]; rfl)
        rw [x_tt, x_tt] at hn
        have hx : f2 (x_t (x_t T e) g) * (f2 S * f1 T - f1 S * f2 T) = 0 := by grind
        have := (hd.1 _ _ hx).resolve_left m2
        grind
      by_cases q2 : f2 T = 0
      · by_cases q1 : f1 T = 0
        · rw [q1, q2]; grind
        · obtain ⟨g, hg, c2, c1, hn⟩ := x_ex h2 h3 q1 n2 he b1 b2
          refine go g hg c2 c1 hn (fun z => ?_)
          have hp := ih (x_t (x_t T e) g) (by have := x_dfs he b1 b2 c2; omega)
          rw [z] at hp
          have : f2 S * f1 (x_t (x_t T e) g) = 0 := by rw [hp]; grind
          rcases hd.1 _ _ this with h | h
          · exact n2 h
          · exact hn h
      · obtain ⟨g, hg, c2, c1, hn⟩ := x_ex h2' h3 q2 n2 he b1 b2
        refine go g hg c2 c1 (fun z => ?_) hn
        have hp := ih (x_t (x_t T e) g) (by have := x_dfs he b1 b2 c2; omega)
        rw [z] at hp
        have : f1 S * f2 (x_t (x_t T e) g) = 0 := by rw [← hp]; grind
        rcases hd.1 _ _ this with h | h
        · exact hS h
        · exact hn h
  exact fun T => main _ T rfl
