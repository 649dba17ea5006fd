/-! PURE: ghost forms are forms of spaces; they make matroids -/
def x_gx (p n : Nat) (g : Nat → Int) : Prop := ∀ (F : Type) [Lean.Grind.CommRing F] (φ : Int → F), x_hm p F φ → ∃ P : (Nat → F) → Prop, x_cl P ∧ x_E2 P (fun S => φ (g S)) ∧ x_E3 P (fun S => φ (g S)) ∧ ∀ v, P v → ∀ e, e < 12 → n ≤ e → v e = 0
theorem x_hmfd {p n : Nat} {F : Type} [Lean.Grind.CommRing F] {φ : Int → F} (h : x_hm p F φ) (g : Nat → Int) : (fun S => φ (x_fd n g S)) = x_fd n (fun S => φ (g S)) := by
  funext S
  unfold x_fd
  by_cases q : S < 2 ^ n
  · rw [if_pos q, if_pos q, h.2.2.1, x_hms h]
  · rw [if_neg q, if_neg q, h.2.2.2.1]
theorem x_hmfr {p n U : Nat} {k : Nat → Nat} {F : Type} [Lean.Grind.CommRing F] {φ : Int → F} (h : x_hm p F φ) (g : Nat → Int) : (fun S => φ (x_fr n k U g S)) = x_fr n k U (fun S => φ (g S)) := by
  funext S
  unfold x_fr
  by_cases q : S < 2 ^ n
  · rw [if_pos q, if_pos q, h.2.2.1, x_hms h]
  · rw [if_neg q, if_neg q, h.2.2.2.1]
theorem x_hmfj {p n m : Nat} {F : Type} [Lean.Grind.CommRing F] {φ : Int → F} (h : x_hm p F φ) (f g : Nat → Int) : (fun S => φ (x_fj n m f g S)) = x_fj n m (fun S => φ (f S)) (fun S => φ (g S)) := by
  funext S
  unfold x_fj
  by_cases q : S < 2 ^ (n + m)
  · rw [if_pos q, if_pos q, h.2.2.1]
  · rw [if_neg q, if_neg q, h.2.2.2.1]
theorem x_gxM {p n r : Nat} {g : Nat → Int} (hp : x_pm p) (hg : x_gh p n r g) (h : x_gx p n g) : x_M n r (x_bg p g) := by
  obtain ⟨F, _, φ, hm⟩ := x_hmex hp
  obtain ⟨P, P1, P2, P3, P4⟩ := h F φ hm
  have e : ∀ S, x_bg p g S = true ↔ ¬ φ (g S) = 0 := fun S => by rw [x_bgT, hm.2.2.2.2.2.1]
  refine ⟨hg.1, ?_, fun B hB => hg.2.1 B (x_bgT.1 hB), fun B1 B2 i b1 b2 hi h1 h2 => ?_⟩
  · obtain ⟨S, hS⟩ := hg.2.2.1
    exact ⟨S, x_bgT.2 hS⟩
  · obtain ⟨j, j1, j2, j3, j4⟩ := x_ex P2 P3 ((e B1).1 b1) ((e B2).1 b2) hi h1 h2
    exact ⟨j, j1, j2, j3, (e _).2 j4⟩
theorem x_clq {n : Nat} {k : Nat → Nat} {F : Type} [Lean.Grind.CommRing F] (hd : x_dom F) {P : (Nat → F) → Prop} (hP : x_cl P) (hn : n ≤ 12) : x_cl (fun v' => (∃ (c : F) (v : Nat → F), ¬ c = 0 ∧ P v ∧ ∀ j, j < n → c * v' j = v (k j)) ∧ ∀ e, e < 12 → n ≤ e → v' e = 0) := by
  refine ⟨⟨⟨1, fun _ => 0, hd.2, hP.1, fun j _ => ?_⟩, fun _ _ _ => rfl⟩, fun a b u v hu hv => ?_, fun u v he hu => ?_, fun a u ha hu => ?_⟩
  · show (1 : F) * 0 = 0
    grind
  · obtain ⟨⟨c1, w1, a1, a2, a3⟩, a4⟩ := hu
    obtain ⟨⟨c2, w2, b1, b2, b3⟩, b4⟩ := hv
    refine ⟨⟨c1 * c2, fun e => (a * c2) * w1 e + (b * c1) * w2 e, fun q => (hd.1 _ _ q).elim a1 b1, hP.2.1 _ _ _ _ a2 b2, fun j hj => ?_⟩, fun e h1 h2 => ?_⟩
    · show c1 * c2 * (a * u j + b * v j) = (a * c2) * w1 (k j) + (b * c1) * w2 (k j)
      rw [← a3 j hj, ← b3 j hj]
      grind
    · show a * u e + b * v e = 0
      rw [a4 e h1 h2, b4 e h1 h2]; grind
  · obtain ⟨⟨c, w, a1, a2, a3⟩, a4⟩ := hu
    exact ⟨⟨c, w, a1, a2, fun j hj => by rw [← he j (by omega)]; exact a3 j hj⟩, fun e h1 h2 => by rw [← he e h1]; exact a4 e h1 h2⟩
  · obtain ⟨⟨c, w, a1, a2, a3⟩, a4⟩ := hu
    refine ⟨⟨c * a, w, fun q => (hd.1 _ _ q).elim a1 ha, a2, fun j hj => ?_⟩, fun e h1 h2 => ?_⟩
    · rw [← a3 j hj]
      show c * a * u j = c * (a * u j)
      grind
    · have : a * u e = 0 := a4 e h1 h2
      exact (hd.1 _ _ this).resolve_left ha
theorem x_gxd {p n r : Nat} {g : Nat → Int} (hg : x_gh p n r g) (h : x_gx p n g) : x_gx p n (x_fd n g) := fun F _ φ hm => by
  obtain ⟨P, P1, P2, P3, P4⟩ := h F φ hm
  have hd := hm.1
  have z : ∀ S, ¬ φ (g S) = 0 → S < 2 ^ n := fun S hS => (hg.2.1 S (fun q => hS ((hm.2.2.2.2.2.1 _).2 q))).1
  have hc : x_cl (fun v : Nat → F => (∀ u, P u → x_dot v u = 0) ∧ ∀ e, e < 12 → n ≤ e → v e = 0) := by
    refine x_cland ?_ (x_clz hd (fun e => n ≤ e))
    exact ⟨fun u hu => (x_dotc hd u).1, fun a b v w hv hw u hu => (x_dotc hd u).2.1 a b v w (hv u hu) (hw u hu), fun v w he hv u hu => (x_dotc hd u).2.2.1 v w he (hv u hu), fun c v hc hv u hu => (x_dotc hd u).2.2.2 c v hc (hv u hu)⟩
  have := x_fdE hd (P' := fun v : Nat → F => (∀ u, P u → x_dot v u = 0) ∧ ∀ e, e < 12 → n ≤ e → v e = 0) hg.1 P1 P2 P3 z (fun v h1 h2 => ⟨fun u hu => by rw [x_dots]; exact h1 u hu, h2⟩) (fun v hv => ⟨fun u hu => by rw [x_dots]; exact hv.1 u hu, hv.2⟩)
  rw [← x_hmfd hm] at this
  exact ⟨_, hc, this.1, this.2, fun v hv => hv.2⟩
theorem x_gxj {p n n2 r r2 : Nat} {g g2 : Nat → Int} (hn : n + n2 ≤ 12) (hg : x_gh p n r g) (hg2 : x_gh p n2 r2 g2) (h : x_gx p n g) (h2 : x_gx p n2 g2) : x_gx p (n + n2) (x_fj n n2 g g2) := fun F _ φ hm => by
  obtain ⟨P, P1, P2, P3, P4⟩ := h F φ hm
  obtain ⟨Q, Q1, Q2, Q3, Q4⟩ := h2 F φ hm
  have hd := hm.1
  have z1 : ∀ S, ¬ φ (g S) = 0 → x_n S = r := fun S hS => (hg.2.1 S (fun q => hS ((hm.2.2.2.2.2.1 _).2 q))).2
  have z2 : ∀ S, ¬ φ (g2 S) = 0 → x_n S = r2 := fun S hS => (hg2.2.1 S (fun q => hS ((hm.2.2.2.2.2.1 _).2 q))).2
  have c1 : x_cl (fun v : Nat → F => P (fun j => if j < n then v j else 0)) := by
    have := x_clpre P1 (fun j => decide (j < n)) (fun j => j) (fun j hj _ => hj)
    simp only [decide_eq_true_eq] at this
    exact this
  have c2 : x_cl (fun v : Nat → F => Q (fun j => if j < n2 then v (n + j) else 0)) := by
    have := x_clpre Q1 (fun j => decide (j < n2)) (fun j => n + j) (fun j hj w => by have := of_decide_eq_true w; omega)
    simp only [decide_eq_true_eq] at this
    exact this
  have hc := x_cland c1 (x_cland c2 (x_clz hd (fun e => n + n2 ≤ e)))
  have := x_fjE hd (P := P) (Q := Q) (P' := fun v : Nat → F => P (fun j => if j < n then v j else 0) ∧ Q (fun j => if j < n2 then v (n + j) else 0) ∧ ∀ e, e < 12 → n + n2 ≤ e → v e = 0) hn hc P2 P3 Q2 Q3 z1 z2 (fun v hv => ?_) (fun v hv => ?_) (fun v hv => hv)
  · rw [← x_hmfj hm] at this
    exact ⟨_, hc, this.1, this.2, fun v hv => hv.2.2⟩
  · refine ⟨P1.2.2.1 _ _ (fun e he => ?_) hv, Q1.2.2.1 _ _ (fun e he => ?_) Q1.1, fun e h1 h2 => ?_⟩
    · show v e = if e < n then (if e < n then v e else 0) else 0
      by_cases q : e < n
      · rw [if_pos q, if_pos q]
      · rw [if_neg q]; exact P4 v hv e he (by omega)
    · show (0 : F) = if e < n2 then (if n + e < n then v (n + e) else 0) else 0
      rw [if_neg (show ¬ n + e < n by omega)]
      split <;> rfl
    · show (if e < n then v e else 0) = 0
      rw [if_neg (by omega)]
  · refine ⟨P1.2.2.1 _ _ (fun e he => ?_) P1.1, Q1.2.2.1 _ _ (fun e he => ?_) hv, fun e h1 h2 => ?_⟩
    · show (0 : F) = if e < n then (if n ≤ e ∧ e < n + n2 then v (e - n) else 0) else 0
      by_cases q : e < n
      · rw [if_pos q, if_neg (by omega)]
      · rw [if_neg q]
    · show v e = if e < n2 then (if n ≤ n + e ∧ n + e < n + n2 then v (n + e - n) else 0) else 0
      by_cases q : e < n2
      · rw [if_pos q, if_pos (by omega), show n + e - n = e by omega]
      · rw [if_neg q]; exact Q4 v hv e he (by omega)
    · show (if n ≤ e ∧ e < n + n2 then v (e - n) else 0) = 0
      rw [if_neg (by omega)]
section GXR
variable {p n n' r S U : Nat} {k : Nat → Nat} {g : Nat → Int}
theorem x_gxc (hp : x_pm p) (hg : x_gh p n r g) (h : x_gx p n g) (hS : S < 2 ^ n) (hk : x_kp (x_co n S) n' k) (hn' : n' ≤ 12) (hU : x_Uc p n g S U) : x_gx p n' (x_fr n' k U g) := fun F _ φ hm => by
  obtain ⟨P, P1, P2, P3, P4⟩ := h F φ hm
  obtain ⟨u1, u2, u3, u4⟩ := hU
  have hd := hm.1
  have hkS : ∀ j, j < n' → S.testBit (k j) = false := fun j hj => ((x_cobS hS).1 (hk.2.1 j hj)).2
  have hPc := x_cland P1 (x_clz hd (fun e => S.testBit e = true))
  have hc := x_clq (k := k) hd hPc hn'
  have := x_frC hd (P := P) (P' := fun v' : Nat → F => (∃ (c : F) (v : Nat → F), ¬ c = 0 ∧ (P v ∧ ∀ e, e < 12 → S.testBit e = true → v e = 0) ∧ ∀ j, j < n' → c * v' j = v (k j)) ∧ ∀ e, e < 12 → n' ≤ e → v' e = 0) (U := U) (C := fun e => S.testBit e = true) hn' hk.1 hc P2 P3 (fun j hj => Bool.eq_false_iff.2 (fun q => by have w := hkS j hj; rw [u2 _ q] at w; exact Bool.noConfusion w)) u2 (fun j hj q => by rw [hkS j hj] at q; exact Bool.noConfusion q) (fun T c t1 t2 t3 t4 t5 => u4 T c (fun q => t1 ((hm.2.2.2.2.2.1 _).2 q)) t2 t3 t4 t5) (fun v hv hz => ?_) (fun v' hv => ?_)
  · rw [← x_hmfr hm] at this
    exact ⟨_, hc, this.1, this.2, fun v hv => hv.2⟩
  · refine ⟨⟨1, v, hd.2, ⟨hv, hz⟩, fun j hj => ?_⟩, fun e h1 h2 => ?_⟩
    · show 1 * (if j < n' then v (k j) else 0) = v (k j)
      rw [if_pos hj]; grind
    · show (if e < n' then v (k e) else 0) = 0
      rw [if_neg (by omega)]
  · obtain ⟨⟨c, v, a1, a2, a3⟩, a4⟩ := hv
    exact ⟨⟨c, v, a1, a2.1, a2.2, a3⟩, a4⟩
theorem x_gxl (hp : x_pm p) (hg : x_gh p n r g) (h : x_gx p n g) (hS : S < 2 ^ n) (hk : x_kp (x_co n S) n' k) (hn' : n' ≤ 12) (hU : x_Ud p n g S U) : x_gx p n' (x_fr n' k U g) := fun F _ φ hm => by
  obtain ⟨P, P1, P2, P3, P4⟩ := h F φ hm
  obtain ⟨u1, u2, u3, u4⟩ := hU
  have hd := hm.1
  have hkS : ∀ j, j < n' → S.testBit (k j) = false := fun j hj => ((x_cobS hS).1 (hk.2.1 j hj)).2
  have hc := x_clq (k := k) hd P1 hn'
  have := x_frD hd (P := P) (P' := fun v' : Nat → F => (∃ (c : F) (v : Nat → F), ¬ c = 0 ∧ P v ∧ ∀ j, j < n' → c * v' j = v (k j)) ∧ ∀ e, e < 12 → n' ≤ e → v' e = 0) (U := U) hn' hk.1 P1 hc P2 P3 (fun j hj => Bool.eq_false_iff.2 (fun q => by have w := hkS j hj; rw [u2 _ q] at w; exact Bool.noConfusion w)) (fun T u t1 t2 t3 t4 => u4 T u (fun q => t1 ((hm.2.2.2.2.2.1 _).2 q)) (fun e h1 h2 => ?_) t3 t4) (fun v hv => ?_) (fun v' hv => hv)
  · rw [← x_hmfr hm] at this
    exact ⟨_, hc, this.1, this.2, fun v hv => hv.2⟩
  · rcases t2 e h1 h2 with q | ⟨j, j1, j2⟩
    · exact Or.inl q
    · exact Or.inr (by rw [← j2]; exact hkS j j1)
  · refine ⟨⟨1, v, hd.2, hv, fun j hj => ?_⟩, fun e h1 h2 => ?_⟩
    · show 1 * (if j < n' then v (k j) else 0) = v (k j)
      rw [if_pos hj]; grind
    · show (if e < n' then v (k e) else 0) = 0
      rw [if_neg (by omega)]
end GXR
theorem x_gxo {p n R : Nat} {A : Nat → Nat → Int} {g : Nat → Int} (hz : ∀ i, i < R → x_z0 n (A i)) (h : x_of2 p R A g) : x_gx p n g := fun F _ φ hm => by
  obtain ⟨P, P1, P2, P3, P4, P5⟩ := h F φ hm
  refine ⟨P, P1, P4, P5, fun v hv => ?_⟩
  exact P3 v hv _ (x_clz hm.1 (fun e => n ≤ e)) (fun i hi e _ h2 => by show φ (A i e) = 0; rw [hz i hi e h2, hm.2.2.2.1])
