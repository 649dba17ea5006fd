/-! PURE: copies and sums of the reference's rows -/
theorem x_clpre {F : Type} [Lean.Grind.CommRing F] {P : (Nat → F) → Prop} (hP : x_cl P) (c : Nat → Bool) (s : Nat → Nat) (hs : ∀ j, j < 12 → c j = true → s j < 12) : x_cl (fun v => P (fun j => if c j = true then v (s j) else 0)) := by
  refine ⟨hP.2.2.1 _ _ (fun e _ => ?_) hP.1, fun a b u v hu hv => hP.2.2.1 _ _ (fun e _ => ?_) (hP.2.1 a b _ _ hu hv), fun u v he hu => hP.2.2.1 _ _ (fun e h => ?_) hu, fun a u ha hu => hP.2.2.2 a _ ha (hP.2.2.1 _ _ (fun e _ => ?_) hu)⟩
  · show 0 = if c e = true then (0 : F) else 0
    split <;> rfl
  · show a * (if c e = true then u (s e) else 0) + b * (if c e = true then v (s e) else 0) = if c e = true then a * u (s e) + b * v (s e) else 0
    split
    · rfl
    · grind
  · show (if c e = true then u (s e) else 0) = if c e = true then v (s e) else 0
    by_cases q : c e = true
    · rw [if_pos q, if_pos q]; exact he _ (hs e h q)
    · rw [if_neg q, if_neg q]
  · show (if c e = true then a * u (s e) else 0) = a * (if c e = true then u (s e) else 0)
    split
    · rfl
    · grind
theorem x_cland {F : Type} [Lean.Grind.CommRing F] {P Q : (Nat → F) → Prop} (hP : x_cl P) (hQ : x_cl Q) : x_cl (fun v => P v ∧ Q v) := ⟨⟨hP.1, hQ.1⟩, fun a b u v hu hv => ⟨hP.2.1 a b u v hu.1 hv.1, hQ.2.1 a b u v hu.2 hv.2⟩, fun u v he hu => ⟨hP.2.2.1 u v he hu.1, hQ.2.2.1 u v he hu.2⟩, fun a u ha hu => ⟨hP.2.2.2 a u ha hu.1, hQ.2.2.2 a u ha hu.2⟩⟩
theorem x_clz {F : Type} [Lean.Grind.CommRing F] (hd : x_dom F) (C : Nat → Prop) : x_cl (fun v : Nat → F => ∀ e, e < 12 → C e → v e = 0) := by
  refine ⟨fun _ _ _ => rfl, fun a b u v hu hv e q1 q2 => ?_, fun u v he hu e q1 q2 => ?_, fun a u ha hu e q1 q2 => ?_⟩
  · show a * u e + b * v e = 0
    rw [hu e q1 q2, hv e q1 q2]; grind
  · rw [← he e q1]; exact hu e q1 q2
  · exact (hd.1 _ _ (hu e q1 q2)).resolve_left ha
theorem x_hmex {p : Nat} (hp : x_pm p) : ∃ (F : Type) (_ : Lean.Grind.CommRing F) (φ : Int → F), x_hm p F φ := by
  by_cases p0 : p = 0
  · subst p0; exact ⟨Int, inferInstance, fun z => z, x_hm0⟩
  · haveI : NeZero p := ⟨p0⟩
    exact ⟨Fin p, inferInstance, x_fp p, x_hmp hp⟩
theorem x_mdm {p : Nat} (hp : x_pm p) (a b : Int) : x_md p (a * b) = 0 ↔ x_md p a = 0 ∨ x_md p b = 0 := by
  obtain ⟨F, _, φ, hm⟩ := x_hmex hp
  obtain ⟨m1, m2, m3, m4, m5, m6, m7, m8⟩ := hm
  rw [← m6, ← m6, ← m6, m3]
  constructor
  · exact m1.1 _ _
  · intro h
    rcases h with q | q
    · rw [q]; grind
    · rw [q]; grind
theorem x_mds {p : Nat} (hp : x_pm p) (q : Bool) (a : Int) : x_md p (x_s Int q * a) = 0 ↔ x_md p a = 0 := by
  rw [x_mdm hp]
  constructor
  · intro h
    rcases h with w | w
    · refine absurd w (fun w => ?_)
      obtain ⟨F, _, φ, hm⟩ := x_hmex hp
      rw [← hm.2.2.2.2.2.1, x_hms hm] at w
      have h1 := x_ss (R := F) q
      rw [w] at h1
      exact hm.1.2 (by rw [← h1]; grind)
    · exact w
  · exact Or.inr
theorem x_md00 {p : Nat} (hp : x_pm p) : x_md p 0 = 0 := by
  unfold x_md
  split
  · rfl
  · exact Int.zero_emod _
/-- copy -/
theorem x_cpy {p r : Nat} {K : Nat → Nat → Int} {g : Nat → Int} (hpp : x_pp p r K g) : x_of2 p r K g := fun F _ φ hm => ⟨x_spn φ r K, x_spnc φ r K, fun _ hi => x_spnr hi, fun _ hv => hv, (x_spnE hm hpp).1, (x_spnE hm hpp).2⟩
theorem x_cpl {n r : Nat} {piv : Nat → Nat} {K : Nat → Nat → Int} {g : Nat → Int} (hK : x_KK 0 n r piv K) (hpp : x_pp 0 r K g) (hg : x_gh 0 n r g) : x_lk n r K := by
  refine Or.inr ⟨n, g, fun j => j, hg.1, fun j hj => hj, hg.2.2.2 rfl, fun i hi j hj => Nat.le_trans ((hK.2.2.2.2.2.2.2.1 rfl i hi).2 j hj) x_142, ?_⟩
  have h := x_KKdl (n := n) (k := fun j => j) hK hpp (fun j hj => hj)
  have e : (fun i j => if j < n then K i j else 0) = (fun i j => if j < n then K i ((fun j => j) j) else 0) := rfl
  obtain ⟨w, z, Z, h1, h2, h3, h4, h5, h6, h7⟩ := h
  refine ⟨w, z, Z, h1, h2, h3, h4, h5, h6, fun i hi => x_pnt ⟨1, 1, by decide, by decide, fun j hj => ?_⟩ (h7 i hi)⟩
  show 1 * K i j = 1 * (if j < n then K i j else 0)
  rw [if_pos hj]
/-- sums -/
def x_smA (n1 n2 r1 : Nat) (K1 K2 : Nat → Nat → Int) (i j : Nat) : Int := if i < r1 then (if j < n1 then K1 i j else 0) else if n1 ≤ j ∧ j < n1 + n2 then K2 (i - r1) (j - n1) else 0
theorem x_cnadd (f : Nat → Bool) (a : Nat) : ∀ b, x_cn (a + b) f = x_cn a f + x_cn b (fun i => f (a + i))
  | 0 => rfl
  | b + 1 => by
    show x_cn (a + b) f + (if f (a + b) = true then 1 else 0) = x_cn a f + (x_cn b (fun i => f (a + i)) + (if f (a + b) = true then 1 else 0))
    rw [x_cnadd f a b]; omega
theorem x_cnzz {f : Nat → Bool} : ∀ n, (∀ i, i < n → f i = false) → x_cn n f = 0
  | 0, _ => rfl
  | n + 1, h => by
    show x_cn n f + (if f n = true then 1 else 0) = 0
    rw [x_cnzz n (fun i hi => h i (by omega)), h n (by omega)]; rfl
theorem x_nsp {S n : Nat} (hn : n ≤ 12) (hS : S < 2 ^ 12) : x_n S = x_n (S % 2 ^ n) + x_n (S / 2 ^ n) := by
  have e : (12 : Nat) = n + (12 - n) := by omega
  have e1 : x_n S = x_cn n (fun i => S.testBit i) + x_cn (12 - n) (fun i => S.testBit (n + i)) := by
    show x_cn 12 (fun i => S.testBit i) = _
    have := x_cnadd (fun i => S.testBit i) n (12 - n)
    rw [← e] at this; exact this
  have e2 : x_n (S % 2 ^ n) = x_cn n (fun i => S.testBit i) := by
    show x_cn 12 (fun i => (S % 2 ^ n).testBit i) = _
    have := x_cnadd (fun i => (S % 2 ^ n).testBit i) n (12 - n)
    rw [← e] at this
    rw [this, x_cnzz (12 - n) (fun i hi => by rw [x_mb, decide_eq_false (by omega), Bool.false_and]), Nat.add_zero]
    exact x_cnc n (fun i hi => by rw [x_mb, decide_eq_true hi, Bool.true_and])
  have e3 : x_n (S / 2 ^ n) = x_cn (12 - n) (fun i => S.testBit (n + i)) := by
    show x_cn 12 (fun i => (S / 2 ^ n).testBit i) = _
    have := x_cnadd (fun i => (S / 2 ^ n).testBit i) (12 - n) n
    rw [show 12 - n + n = 12 by omega] at this
    rw [this, x_cnzz n (fun i hi => by rw [x_db]; exact x_hi hS (by omega)), Nat.add_zero]
    exact x_cnc (12 - n) (fun i _ => x_db)
  omega
theorem x_smG {p n1 n2 r1 r2 : Nat} {g1 g2 : Nat → Int} (hp : x_pm p) (hn : n1 + n2 ≤ 12) (h1 : x_gh p n1 r1 g1) (h2 : x_gh p n2 r2 g2) : x_gh p (n1 + n2) (r1 + r2) (x_fj n1 n2 g1 g2) := by
  have hl : ∀ {S : Nat}, ¬ x_md p (x_fj n1 n2 g1 g2 S) = 0 → S < 2 ^ (n1 + n2) ∧ (¬ x_md p (g1 (S % 2 ^ n1)) = 0) ∧ ¬ x_md p (g2 (S / 2 ^ n1)) = 0 := fun {S} h => by
    unfold x_fj at h
    by_cases q : S < 2 ^ (n1 + n2)
    · rw [if_pos q, x_mdm hp] at h
      exact ⟨q, fun w => h (Or.inl w), fun w => h (Or.inr w)⟩
    · rw [if_neg q] at h; exact absurd (x_md00 hp) h
  refine ⟨hn, fun S hS => ?_, ?_, fun p0 => ?_⟩
  · obtain ⟨a1, a2, a3⟩ := hl hS
    refine ⟨a1, ?_⟩
    rw [x_nsp (n := n1) (by omega) (Nat.lt_of_lt_of_le a1 (Nat.pow_le_pow_right (by decide) hn)), (h1.2.1 _ a2).2, (h2.2.1 _ a3).2]
  · obtain ⟨S1, q1⟩ := h1.2.2.1
    obtain ⟨S2, q2⟩ := h2.2.2.1
    have b1 := (h1.2.1 _ q1).1
    have b2 := (h2.2.1 _ q2).1
    have e1 : (S1 + 2 ^ n1 * S2) % 2 ^ n1 = S1 := by rw [Nat.add_mul_mod_self_left, Nat.mod_eq_of_lt b1]
    have e2 : (S1 + 2 ^ n1 * S2) / 2 ^ n1 = S2 := by rw [Nat.add_mul_div_left _ _ (Nat.two_pow_pos n1), Nat.div_eq_of_lt b1, Nat.zero_add]
    have e3 : S1 + 2 ^ n1 * S2 < 2 ^ (n1 + n2) := by
      rw [Nat.pow_add]
      have : 2 ^ n1 * (S2 + 1) ≤ 2 ^ n1 * 2 ^ n2 := Nat.mul_le_mul_left _ b2
      rw [Nat.mul_add, Nat.mul_one] at this
      omega
    refine ⟨S1 + 2 ^ n1 * S2, ?_⟩
    unfold x_fj
    rw [if_pos e3, e1, e2, x_mdm hp]
    intro w
    rcases w with w | w
    · exact q1 w
    · exact q2 w
  · subst p0
    exact x_taj (r := r1) hn (fun S hS => (h1.2.1 S (by rw [x_md0]; exact hS)).2) (h1.2.2.2 rfl) (h2.2.2.2 rfl)
theorem x_smO {p n1 n2 r1 r2 : Nat} {g1 g2 : Nat → Int} {K1 K2 : Nat → Nat → Int} {piv1 piv2 : Nat → Nat} (hn : n1 + n2 ≤ 12) (h1 : x_gh p n1 r1 g1) (h2 : x_gh p n2 r2 g2) (k1 : x_KK p n1 r1 piv1 K1) (k2 : x_KK p n2 r2 piv2 K2) (p1 : x_pp p r1 K1 g1) (p2 : x_pp p r2 K2 g2) : x_of2 p (r1 + r2) (x_smA n1 n2 r1 K1 K2) (x_fj n1 n2 g1 g2) := fun F _ φ hm => by
  have hd := hm.1
  have m4 := hm.2.2.2.1
  obtain ⟨E2, E3⟩ := x_spnE hm p1
  obtain ⟨D2, D3⟩ := x_spnE hm p2
  have hcl := x_spnc φ (r1 + r2) (x_smA n1 n2 r1 K1 K2)
  have e : (fun S => φ (x_fj n1 n2 g1 g2 S)) = x_fj n1 n2 (fun S => φ (g1 S)) (fun S => φ (g2 S)) := by
    funext S
    unfold x_fj
    split
    · exact hm.2.2.1 _ _
    · exact m4
  rw [e]
  have c1 : x_cl (fun v : Nat → F => x_spn φ (r1 + r2) (x_smA n1 n2 r1 K1 K2) (fun j => if j < n1 then v j else 0)) := by
    have h := x_clpre hcl (fun j => decide (j < n1)) (fun j => j) (fun j hj _ => hj)
    simp only [decide_eq_true_eq] at h
    exact h
  have c2 : x_cl (fun v : Nat → F => x_spn φ (r1 + r2) (x_smA n1 n2 r1 K1 K2) (fun j => if n1 ≤ j ∧ j < n1 + n2 then v (j - n1) else 0)) := by
    have h := x_clpre hcl (fun j => decide (n1 ≤ j ∧ j < n1 + n2)) (fun j => j - n1) (fun j hj _ => by omega)
    simp only [decide_eq_true_eq] at h
    exact h
  have c3 : x_cl (fun v : Nat → F => x_spn φ r1 K1 (fun j => if j < n1 then v j else 0)) := by
    have h := x_clpre (x_spnc φ r1 K1) (fun j => decide (j < n1)) (fun j => j) (fun j hj _ => hj)
    simp only [decide_eq_true_eq] at h
    exact h
  have c4 : x_cl (fun v : Nat → F => x_spn φ r2 K2 (fun j => if j < n2 then v (n1 + j) else 0)) := by
    have h := x_clpre (x_spnc φ r2 K2) (fun j => decide (j < n2)) (fun j => n1 + j) (fun j hj q => by have := of_decide_eq_true q; omega)
    simp only [decide_eq_true_eq] at h
    exact h
  have c5 := x_cland c3 (x_cland c4 (x_clz hd (fun e => n1 + n2 ≤ e)))
  have H1 : ∀ v, x_spn φ r1 K1 v → x_spn φ (r1 + r2) (x_smA n1 n2 r1 K1 K2) (fun j => if j < n1 then v j else 0) := fun v hv => hv _ c1 (fun i hi => by
    refine hcl.2.2.1 _ _ (fun e _ => ?_) (x_spnr (φ := φ) (K := x_smA n1 n2 r1 K1 K2) (show i < r1 + r2 by omega))
    show φ (x_smA n1 n2 r1 K1 K2 i e) = if e < n1 then φ (K1 i e) else 0
    unfold x_smA
    rw [if_pos hi]
    split
    · rfl
    · exact m4)
  have H2 : ∀ v, x_spn φ r2 K2 v → x_spn φ (r1 + r2) (x_smA n1 n2 r1 K1 K2) (fun j => if n1 ≤ j ∧ j < n1 + n2 then v (j - n1) else 0) := fun v hv => hv _ c2 (fun i hi => by
    refine hcl.2.2.1 _ _ (fun e _ => ?_) (x_spnr (φ := φ) (K := x_smA n1 n2 r1 K1 K2) (show r1 + i < r1 + r2 by omega))
    show φ (x_smA n1 n2 r1 K1 K2 (r1 + i) e) = if n1 ≤ e ∧ e < n1 + n2 then φ (K2 i (e - n1)) else 0
    unfold x_smA
    rw [if_neg (by omega), Nat.add_sub_cancel_left]
    split
    · rfl
    · exact m4)
  have H3 : ∀ v, x_spn φ (r1 + r2) (x_smA n1 n2 r1 K1 K2) v → x_spn φ r1 K1 (fun j => if j < n1 then v j else 0) ∧ x_spn φ r2 K2 (fun j => if j < n2 then v (n1 + j) else 0) ∧ (∀ e, e < 12 → n1 + n2 ≤ e → v e = 0) := fun v hv => hv _ c5 (fun i hi => by
      by_cases q : i < r1
      · refine ⟨(x_spnc φ r1 K1).2.2.1 _ _ (fun e _ => ?_) (x_spnr (φ := φ) (K := K1) q), (x_spnc φ r2 K2).2.2.1 _ _ (fun e _ => ?_) (x_spnc φ r2 K2).1, fun e q1 q2 => ?_⟩
        · show φ (K1 i e) = if e < n1 then φ (x_smA n1 n2 r1 K1 K2 i e) else 0
          unfold x_smA
          rw [if_pos q]
          by_cases w : e < n1
          · rw [if_pos w, if_pos w]
          · rw [if_neg w, k1.2.2.2.2.2.2.1 i q e (by omega), m4]
        · show 0 = if e < n2 then φ (x_smA n1 n2 r1 K1 K2 i (n1 + e)) else 0
          unfold x_smA
          rw [if_pos q, if_neg (show ¬ n1 + e < n1 by omega), m4]
          split <;> rfl
        · show φ (x_smA n1 n2 r1 K1 K2 i e) = 0
          unfold x_smA
          rw [if_pos q, if_neg (by omega), m4]
      · refine ⟨(x_spnc φ r1 K1).2.2.1 _ _ (fun e _ => ?_) (x_spnc φ r1 K1).1, (x_spnc φ r2 K2).2.2.1 _ _ (fun e _ => ?_) (x_spnr (φ := φ) (K := K2) (show i - r1 < r2 by omega)), fun e q1 q2 => ?_⟩
        · show 0 = if e < n1 then φ (x_smA n1 n2 r1 K1 K2 i e) else 0
          unfold x_smA
          rw [if_neg q]
          by_cases w : e < n1
          · rw [if_pos w, if_neg (by omega), m4]
          · rw [if_neg w]
        · show φ (K2 (i - r1) e) = if e < n2 then φ (x_smA n1 n2 r1 K1 K2 i (n1 + e)) else 0
          unfold x_smA
          rw [if_neg q]
          by_cases w : e < n2
          · rw [if_pos w, if_pos (by omega), Nat.add_sub_cancel_left]
          · rw [if_neg w, k2.2.2.2.2.2.2.1 (i - r1) (by omega) e (by omega), m4]
        · show φ (x_smA n1 n2 r1 K1 K2 i e) = 0
          unfold x_smA
          rw [if_neg q, if_neg (by omega), m4])
  obtain ⟨q1, q2⟩ := x_fjE hd (P := x_spn φ r1 K1) (Q := x_spn φ r2 K2) (P' := x_spn φ (r1 + r2) (x_smA n1 n2 r1 K1 K2)) (n := n1) (m := n2) (r := r1) (t := r2) hn hcl E2 E3 D2 D3 (fun S hS => (h1.2.1 S (fun q => hS ((hm.2.2.2.2.2.1 _).2 q))).2) (fun S hS => (h2.2.1 S (fun q => hS ((hm.2.2.2.2.2.1 _).2 q))).2) H1 H2 H3
  exact ⟨_, hcl, fun i hi => x_spnr hi, fun v hv => hv, q1, q2⟩
