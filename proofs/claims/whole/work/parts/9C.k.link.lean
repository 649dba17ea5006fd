/-! PURE: rows over a field, their form, and a form told otherwise -/
/-- from whole numbers to the field: Int itself for Q, or the residues of p -/
def x_hm (p : Nat) (R : Type) [Lean.Grind.CommRing R] (φ : Int → R) : Prop := x_dom R ∧ (∀ a b, φ (a + b) = φ a + φ b) ∧ (∀ a b, φ (a * b) = φ a * φ b) ∧ φ 0 = 0 ∧ φ 1 = 1 ∧ (∀ z, φ z = 0 ↔ x_md p z = 0) ∧ (∀ y : R, ∃ z, φ z = y) ∧ (∀ a b, φ a = φ b ↔ x_md p a = x_md p b)
theorem x_md0 (z : Int) : x_md 0 z = z := by unfold x_md; rw [if_pos rfl]
theorem x_hm0 : x_hm 0 Int (fun z => z) := ⟨x_domI, fun _ _ => rfl, fun _ _ => rfl, rfl, rfl, fun z => by rw [x_md0], fun y => ⟨y, rfl⟩, fun a b => by rw [x_md0, x_md0]⟩
theorem x_hmp {p : Nat} [NeZero p] (hp : x_pm p) : x_hm p (Fin p) (x_fp p) := by
  obtain ⟨p1, p2, p3⟩ := hp.resolve_left (NeZero.ne p)
  refine ⟨x_fdom p1 p3, x_fpa p, x_fpm p, x_fp0 p, x_fp1 p, fun z => (x_mdz z).symm, fun y => ⟨(y.val : Int), x_fpe (by
    rw [x_fpv, Int.emod_eq_of_lt (by omega) (by have := y.isLt; omega)])⟩, fun a b => ?_⟩
  unfold x_md
  rw [if_neg (NeZero.ne p), if_neg (NeZero.ne p), ← x_fpv, ← x_fpv]
  constructor
  · intro h; rw [h]
  · intro h; exact x_fpe h
/-- a row over the field -/
def x_ro {F : Type} (φ : Int → F) (v : Nat → Int) (j : Nat) : F := φ (v j)
theorem x_hmn {p : Nat} {F : Type} [Lean.Grind.CommRing F] {φ : Int → F} (h : x_hm p F φ) (a : Int) : φ (-a) = - φ a := by
  have h1 := h.2.1 (-a) a
  rw [Int.add_left_neg, h.2.2.2.1] at h1
  grind
theorem x_hms {p : Nat} {F : Type} [Lean.Grind.CommRing F] {φ : Int → F} (h : x_hm p F φ) (q : Bool) : φ (x_s Int q) = x_s F q := by
  cases q
  · exact h.2.2.2.2.1
  · show φ (-1) = -1
    rw [x_hmn h, h.2.2.2.2.1]
theorem x_hmsm {p : Nat} {F : Type} [Lean.Grind.CommRing F] {φ : Int → F} (h : x_hm p F φ) (f : Nat → Int) : ∀ n, φ (x_sm n f) = x_sm n (fun i => φ (f i))
  | 0 => h.2.2.2.1
  | n + 1 => by
    show φ (x_sm n f + f n) = x_sm n (fun i => φ (f i)) + φ (f n)
    rw [h.2.1, x_hmsm h f n]
theorem x_hmw {p : Nat} {F : Type} [Lean.Grind.CommRing F] {φ : Int → F} (h : x_hm p F φ) (r f : Nat → Int) (S : Nat) : φ (x_w r f S) = x_w (fun e => φ (r e)) (fun T => φ (f T)) S := by
  unfold x_w
  rw [x_hmsm h]
  refine x_smc 12 (fun e _ => ?_)
  by_cases q : S.testBit e = true
  · rw [if_pos q, if_pos q, h.2.2.1, h.2.2.1, x_hms h]
  · rw [if_neg q, if_neg q, h.2.2.2.1]
theorem x_hmW {p : Nat} {F : Type} [Lean.Grind.CommRing F] {φ : Int → F} (h : x_hm p F φ) (M : Nat → Nat → Int) : ∀ n S, φ (x_W M n S) = x_W (fun i => x_ro φ (M i)) n S
  | 0, S => by
    show φ (if S = 0 then 1 else 0) = if S = 0 then 1 else 0
    split
    · exact h.2.2.2.2.1
    · exact h.2.2.2.1
  | n + 1, S => by
    rw [x_Ws, x_Ws, x_hmw h]
    exact x_wcf _ S (fun T => x_hmW h M n T)
/-- rows as reduce leaves them -/
def x_RS {F : Type} [Lean.Grind.CommRing F] (φ : Int → F) (p n R r : Nat) (piv : Nat → Nat) (A K : Nat → Nat → Int) : Prop := r ≤ R ∧ r ≤ n ∧ (∀ i, i < r → piv i < n ∧ 0 < K i (piv i)) ∧ (∀ i i', i < r → i' < r → i' ≠ i → K i' (piv i) = 0) ∧ (∀ i i', i < i' → i' < r → piv i < piv i') ∧ (∀ i, i < r → ∀ j, j < piv i → K i j = 0) ∧ (∀ i, i < r → x_z0 n (K i)) ∧ (p = 0 → ∀ i, i < r → x_gc (K i) n = 1) ∧ (p ≠ 0 → ∀ i, i < r → x_rg p (K i) ∧ K i (piv i) = 1) ∧ (∀ P : (Nat → F) → Prop, x_cl P → ((∀ i, i < r → P (x_ro φ (K i))) ↔ ∀ i, i < R → P (x_ro φ (A i))))
theorem x_RSq {n R r : Nat} {piv : Nat → Nat} {A K : Nat → Nat → Int} (h : x_RR n R r piv A K) : x_RS (fun z : Int => z) 0 n R r piv A K := by
  obtain ⟨h1, h2, h3, h4, h5, h6, h7, h8, h9⟩ := h
  exact ⟨h1, h2, h3, h4, h5, h6, h7, fun _ => h8, fun q => absurd rfl q, h9⟩
theorem x_RSp {p n R r : Nat} [NeZero p] {piv : Nat → Nat} {A K : Nat → Nat → Int} (h : x_RP p n R r piv A K) : x_RS (x_fp p) p n R r piv A K := by
  obtain ⟨h1, h2, h3, h4, h5, h6, h7, h8, h9⟩ := h
  exact ⟨h1, h2, fun i hi => ⟨(h3 i hi).1, by rw [(h3 i hi).2]; decide⟩, h4, h5, h6, h7, fun q => absurd q (NeZero.ne p), fun _ i hi => ⟨h8 i hi, (h3 i hi).2⟩, h9⟩
/-- two forms of one space -/
theorem x_link {F : Type} [Lean.Grind.CommRing F] (hd : x_dom F) {K : Nat → Nat → F} {r r0 : Nat} {g : Nat → F} {P : (Nat → F) → Prop} (hP : x_cl P) (hK : ∀ i, i < r → P (K i)) (hPK : ∀ v, P v → x_Z (x_W K r) v) (hne : ∃ S, ¬ x_W K r S = 0) (h2 : x_E2 P g) (h3 : x_E3 P g) (hz : ∀ S, ¬ g S = 0 → S < 2 ^ 12 ∧ x_n S = r0) (hn : ∃ S, ¬ g S = 0) : r = r0 ∧ ∃ a b : F, ¬ a = 0 ∧ ¬ b = 0 ∧ ∀ S, a * x_W K r S = b * g S := by
  have k2 := x_WE2 hP hK
  have k3 := x_WE3 hd (P := P) (p := K) (r := r) hPK
  have kz : ∀ S, ¬ x_W K r S = 0 → S < 2 ^ 12 ∧ x_n S = r := fun S hS => x_Wsz r hS
  obtain ⟨S1, hS1⟩ := hne
  obtain ⟨S2, hS2⟩ := hn
  have e1 := x_le k2 h3 (fun S q => (kz S q).2) (fun S q => (hz S q).2) hS1 hS2
  have e2 := x_le h2 k3 (fun S q => (hz S q).2) (fun S q => (kz S q).2) hS2 hS1
  have e : r = r0 := by omega
  refine ⟨e, ?_⟩
  obtain ⟨a, b, ha, hb, he⟩ := x_same hd hP k2 h2 h3 kz (fun S q => by rw [e]; exact hz S q) ⟨S1, hS1⟩ ⟨S2, hS2⟩
  exact ⟨a, b, ha, hb, he⟩
/-- rows K tell of the form g -/
def x_pp (p r : Nat) (K : Nat → Nat → Int) (g : Nat → Int) : Prop := ∃ a b : Int, (¬ x_md p a = 0) ∧ (¬ x_md p b = 0) ∧ ∀ S, x_md p (a * x_W K r S) = x_md p (b * g S)
/-- a form of rank r on n elements, tame over Q -/
def x_gh (p n r : Nat) (g : Nat → Int) : Prop := n ≤ 12 ∧ (∀ S, ¬ x_md p (g S) = 0 → S < 2 ^ n ∧ x_n S = r) ∧ (∃ S, ¬ x_md p (g S) = 0) ∧ (p = 0 → x_ta (2 ^ 142) n g)
theorem x_ppR {p r : Nat} {F : Type} [Lean.Grind.CommRing F] {φ : Int → F} (hm : x_hm p F φ) {K : Nat → Nat → Int} {g : Nat → Int} : x_pp p r K g ↔ ∃ a b : F, (¬ a = 0) ∧ (¬ b = 0) ∧ ∀ S, a * x_W (fun i => x_ro φ (K i)) r S = b * φ (g S) := by
  obtain ⟨m1, m2, m3, m4, m5, m6, m7, m8⟩ := id hm
  constructor
  · intro ⟨a, b, ha, hb, h⟩
    refine ⟨φ a, φ b, fun q => ha ((m6 a).1 q), fun q => hb ((m6 b).1 q), fun S => ?_⟩
    rw [← x_hmW hm, ← m3, ← m3]
    exact (m8 _ _).2 (h S)
  · intro ⟨a, b, ha, hb, h⟩
    obtain ⟨a', ea⟩ := m7 a
    obtain ⟨b', eb⟩ := m7 b
    refine ⟨a', b', fun q => ha (by rw [← ea]; exact (m6 a').2 q), fun q => hb (by rw [← eb]; exact (m6 b').2 q), fun S => ?_⟩
    rw [← m8, m3, m3, x_hmW hm, ea, eb]
    exact h S
theorem x_Zp {F : Type} [Lean.Grind.CommRing F] (hd : x_dom F) {f g : Nat → F} {a b : F} (ha : ¬ a = 0) (hb : ¬ b = 0) (h : ∀ S, a * f S = b * g S) (v : Nat → F) : x_Z f v ↔ x_Z g v := by
  have key : ∀ S, a * x_w v f S = b * x_w v g S := fun S => by
    have e1 := x_wlinf a 0 v f f S
    have e2 := x_wlinf b 0 v g g S
    have e3 : x_w v (fun T => a * f T + 0 * f T) S = x_w v (fun T => b * g T + 0 * g T) S := x_wcf v S (fun T => by
      show a * f T + 0 * f T = b * g T + 0 * g T
      rw [h T]; grind)
    rw [e1, e2] at e3
    grind
  constructor
  · intro q S
    have := key S
    rw [q S] at this
    have h0 : b * x_w v g S = 0 := by rw [← this]; grind
    exact (hd.1 _ _ h0).resolve_left hb
  · intro q S
    have := key S
    rw [q S] at this
    have h0 : a * x_w v f S = 0 := by rw [this]; grind
    exact (hd.1 _ _ h0).resolve_left ha
theorem x_E2p {F : Type} [Lean.Grind.CommRing F] (hd : x_dom F) {P : (Nat → F) → Prop} (hP : x_cl P) {f g : Nat → F} {a b : F} (ha : ¬ a = 0) (hb : ¬ b = 0) (h : ∀ S, a * f S = b * g S) (h2 : x_E2 P f) : x_E2 P g := fun S e hS he hbit => by
  have hf : ¬ f S = 0 := fun q => by
    have := h S
    rw [q] at this
    have h0 : b * g S = 0 := by rw [← this]; grind
    exact hS ((hd.1 _ _ h0).resolve_left hb)
  refine hP.2.2.2 b _ hb (hP.2.2.1 _ _ (fun e' _ => ?_) (x_clm hP a (h2 S e hf he hbit)))
  show a * x_u f (x_t S e) e' = b * x_u g (x_t S e) e'
  unfold x_u
  split
  · grind
  · have := h (x_t (x_t S e) e')
    generalize f (x_t (x_t S e) e') = y at *
    generalize g (x_t (x_t S e) e') = z at *
    generalize x_s F (x_od (x_t S e) e') = s
    have e1 : a * (s * y) = s * (a * y) := by grind
    rw [e1, this]; grind
theorem x_E3p {F : Type} [Lean.Grind.CommRing F] (hd : x_dom F) {P : (Nat → F) → Prop} {f g : Nat → F} {a b : F} (ha : ¬ a = 0) (hb : ¬ b = 0) (h : ∀ S, a * f S = b * g S) (h3 : x_E3 P f) : x_E3 P g := fun S v hS => h3 S v (fun q => by
    have := h S
    rw [q] at this
    have h0 : b * g S = 0 := by rw [← this]; grind
    exact hS ((hd.1 _ _ h0).resolve_left hb))
/-- what reduce makes of rows A of the space P with the form g -/
theorem x_fin {p n R r r0 : Nat} {F : Type} [Lean.Grind.CommRing F] {φ : Int → F} (hm : x_hm p F φ) {piv : Nat → Nat} {A K : Nat → Nat → Int} {g : Nat → Int} {P : (Nat → F) → Prop} (h : x_RS φ p n R r piv A K) (hg : x_gh p n r0 g) (hP : x_cl P) (hA : ∀ i, i < R → P (x_ro φ (A i))) (hA' : ∀ v, P v → ∀ Q : (Nat → F) → Prop, x_cl Q → (∀ i, i < R → Q (x_ro φ (A i))) → Q v) (h2 : x_E2 P (fun S => φ (g S))) (h3 : x_E3 P (fun S => φ (g S))) : r = r0 ∧ x_KK p n r piv K ∧ x_pp p r K g := by
  obtain ⟨s1, s2, s3, s4, s5, s6, s7, s8, s9, s10⟩ := h
  obtain ⟨g1, g2, g3, g4⟩ := hg
  obtain ⟨m1, m2, m3, m4, m5, m6, m7, m8⟩ := id hm
  have hpne : ∀ i i', i < i' → i' < r → piv i ≠ piv i' := fun i i' q1 q2 w => by have := s5 i i' q1 q2; omega
  have hmd : ∀ i, i < r → ¬ φ (K i (piv i)) = 0 := fun i hi => by
    by_cases p0 : p = 0
    · intro q
      rw [m6, p0, x_md0] at q
      have := (s3 i hi).2; omega
    · rw [(s9 p0 i hi).2, m5]; exact m1.2
  have hps := x_psW m1 (p := fun i => x_ro φ (K i)) r hpne (fun i hi => ⟨by have := (s3 i hi).1; omega, hmd i hi⟩) (fun i i' q1 q2 q3 => by show φ (K i' (piv i)) = 0; rw [s4 i i' q1 q2 q3, m4])
  obtain ⟨e, a, b, ha, hb, he⟩ := x_link m1 (K := fun i => x_ro φ (K i)) (r := r) (r0 := r0) (g := fun S => φ (g S)) hP ((s10 P hP).2 hA) (fun v hv => hA' v hv _ (x_Zc m1 _) ((s10 _ (x_Zc m1 _)).1 (fun i hi => x_Wrow hi))) ⟨_, hps⟩ h2 h3 (fun S hS => by
    obtain ⟨w1, w2⟩ := g2 S (fun q => hS ((m6 _).2 q))
    exact ⟨Nat.lt_of_lt_of_le w1 (Nat.pow_le_pow_right (by decide) g1), w2⟩) (by
    obtain ⟨S, hS⟩ := g3
    exact ⟨S, fun q => hS ((m6 _).1 q)⟩)
  have hpp : x_pp p r K g := (x_ppR hm).2 ⟨a, b, ha, hb, he⟩
  refine ⟨e, ⟨s2, g1, s3, s4, s5, s6, s7, fun p0 i hi => ⟨s8 p0 i hi, ?_⟩, s9⟩, hpp⟩
  -- over Q: the rows are small
  subst p0
  obtain ⟨a, b, ha, hb, he⟩ := hpp
  simp only [x_md0] at ha hb he
  have hps0 : ¬ x_W K r (x_ps piv r) = 0 := x_psW x_domI r hpne (fun i hi => ⟨by have := (s3 i hi).1; omega, by have := (s3 i hi).2; omega⟩) s4
  have hgps : ¬ g (x_ps piv r) = 0 := fun q => by
    have := he (x_ps piv r)
    rw [q, Int.mul_zero] at this
    rcases Int.mul_eq_zero.1 this with y | y
    · exact ha y
    · exact hps0 y
  have hbits := x_psb r (piv := piv) hpne
  have hbi : (x_ps piv r).testBit (piv i) = true := (hbits _).2 ⟨i, hi, rfl⟩
  have hTi : (x_t (x_ps piv r) (piv i)).testBit (piv i) = false := by rw [x_tbs, hbi]; rfl
  refine x_tab (n0 := n) (F := g) (T := x_t (x_ps piv r) (piv i)) (v := K i) (k := fun j => j) g1 (g4 rfl) (fun j hj => hj) (x_pnu (z := piv i) ((x_Zp x_domI ha hb he (K i)).1 (x_Wrow hi)) (by have := (s3 i hi).1; omega) hTi (by have := (s3 i hi).2; omega) (fun e q1 q2 => ?_) (by rw [x_tt]; exact hgps)) x_pnr (Or.inl (s8 rfl i hi))
  have hne : e ≠ piv i := fun y => by rw [y, hTi] at q2; exact Bool.noConfusion q2
  rw [x_tbn hne] at q2
  obtain ⟨i', w1, w2⟩ := (hbits e).1 q2
  rw [← w2]
  exact s4 i' i w1 hi (fun y => hne (by rw [← w2, y]))
