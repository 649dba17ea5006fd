/-! PURE, the reference: become, of a form -/
section RBG
variable {p n R r r0 m : Nat} {A K : Nat → Nat → Int} {piv : Nat → Nat} {g : Nat → Int} {iv gs gp fr fc gm gth ge gf gr gk gq gw gR gS go gz : Nat → Int32} {nv : Nat → px_NV}
/-- letter m of the reference tells of the form g -/
def r_G (m p n r : Nat) (g : Nat → Int) (gth ge gf gr gk gq gR gS : Nat → Int32) : Prop := x_gh p n r g ∧ ∃ piv K, r_L m p n r piv K gth ge gf gr gk gq gR gS ∧ x_pp p r K g
theorem r_Gf {m' : Nat} {gth' ge' gf' gr' gk' gq' gw' gR' gS' : Nat → Int32} (hm : m' ≠ m) (h1 : gth' m' = gth m') (h2 : ge' m' = ge m') (h3 : gf' m' = gf m') (h4 : gr' m' = gr m') (hf : r_kf m gk gq gw gR gS gk' gq' gw' gR' gS') (h : r_G m' p n r g gth ge gf gr gk gq gR gS) : r_G m' p n r g gth' ge' gf' gr' gk' gq' gR' gS' := by
  obtain ⟨h0, piv, K, hL, hp⟩ := h
  exact ⟨h0, piv, K, r_Lf hm h1 h2 h3 h4 hf hL, hp⟩
/-- over Q: what keeps the numbers of the rows A small in reduce -/
def x_lk (n R : Nat) (A : Nat → Nat → Int) : Prop := (∀ i, i < R → ∀ j, j < 12 → (A i j).natAbs ≤ 2 ^ 39) ∨ ∃ (n0 : Nat) (f : Nat → Int) (k : Nat → Nat), n0 ≤ 12 ∧ (∀ j, j < n → k j < n0) ∧ x_ta (2 ^ 142) n0 f ∧ (∀ i, i < R → ∀ j, j < n → (A i j).natAbs ≤ 2 ^ 1000) ∧ x_dl n R f k A
/-- the space of the rows A has the form g -/
def x_of2 (p R : Nat) (A : Nat → Nat → Int) (g : Nat → Int) : Prop := ∀ (F : Type) [Lean.Grind.CommRing F] (φ : Int → F), x_hm p F φ → ∃ P : (Nat → F) → Prop, x_cl P ∧ (∀ i, i < R → P (x_ro φ (A i))) ∧ (∀ v, P v → ∀ Q : (Nat → F) → Prop, x_cl Q → (∀ i, i < R → Q (x_ro φ (A i))) → Q v) ∧ x_E2 P (fun S => φ (g S)) ∧ x_E3 P (fun S => φ (g S))
/-- reduce, in both fields -/
theorem r_redG {post : (Nat → Int32) → (Nat → Int32) → (Nat → Int32) → (Nat → px_NV) → Prop} (hp : x_pm p) (hiv : iv 12 = nI p) (hiv1 : iv 11 = nI n) (hiv0 : iv 10 = nI R) (hR : R ≤ 13) (hn : n ≤ 12) (hX : r_X p n R gs nv A) (hz : ∀ i, i < R → x_z0 n (A i)) (hlk : p = 0 → x_lk n R A) (hrg : p ≠ 0 → ∀ i, i < R → x_rg p (A i)) (hg : x_gh p n r0 g) (hof : x_of2 p R A g)
    (h : ∀ piv K gs' gp' nv', x_KK p n r0 piv K → x_pp p r0 K g → r_X p n r0 gs' nv' K → (∀ i, i < r0 → gp' i = nI (piv i)) → post (va_up iv 10 (nI r0)) gs' gp' nv') : w55_wp post iv gs gp nv := by
  by_cases p0 : p = 0
  · subst p0
    obtain ⟨P, P1, P2, P3, P4, P5⟩ := hof Int (fun z => z) x_hm0
    have fin : ∀ r piv K gs' gp' nv', x_RR n R r piv A K → r_X 0 n r gs' nv' K → (∀ i, i < r → gp' i = nI (piv i)) → post (va_up iv 10 (nI r)) gs' gp' nv' := fun r piv K gs' gp' nv' a1 a2 a3 => by
      obtain ⟨e, b1, b2⟩ := x_fin x_hm0 (x_RSq a1) hg P1 P2 P3 P4 P5
      subst e
      exact h piv K gs' gp' nv' b1 b2 a2 a3
    rcases hlk rfl with q | ⟨n0, f, k, q1, q2, q3, q4, q5⟩
    · exact r_redW hiv hiv1 hiv0 hR hn hX hz q fin
    · exact r_redL hiv hiv1 hiv0 hR hn hX hz q1 q2 q3 q4 q5 fin
  · haveI : NeZero p := ⟨p0⟩
    obtain ⟨p1, p2, p3⟩ := hp.resolve_left p0
    obtain ⟨P, P1, P2, P3, P4, P5⟩ := hof (Fin p) (x_fp p) (x_hmp hp)
    refine r_redP p1 (by omega) p3 hiv hiv1 hiv0 hR hn hX hz (hrg p0) (fun r piv K gs' gp' nv' a1 a2 a3 => ?_)
    obtain ⟨e, b1, b2⟩ := x_fin (x_hmp hp) (x_RSp a1) hg P1 P2 P3 P4 P5
    subst e
    exact h piv K gs' gp' nv' b1 b2 a2 a3
theorem r_becG {post : (Nat → Int32) → (Nat → Int32) → (Nat → Int32) → (Nat → Int32) → (Nat → Int32) → (Nat → Int32) → (Nat → Int32) → (Nat → Int32) → (Nat → Int32) → (Nat → Int32) → (Nat → Int32) → (Nat → Int32) → (Nat → Int32) → (Nat → Int32) → (Nat → Int32) → (Nat → Int32) → (Nat → Int32) → (Nat → px_NV) → Prop} (hp : x_pm p) (hm : m < 26) (hiv : iv 12 = nI p) (hiv1 : iv 11 = nI n) (hiv0 : iv 10 = nI R) (hR : R ≤ 13) (hT : r_T go gz) (hX : r_X p n R gs nv A) (hz : ∀ i, i < R → x_z0 n (A i)) (hlk : p = 0 → x_lk n R A) (hrg : p ≠ 0 → ∀ i, i < R → x_rg p (A i)) (hg : x_gh p n r0 g) (hof : x_of2 p R A g)
    (h : ∀ gs' gp' fr' fc' gm' gk' gq' gw' gR' gS' nv', r_V nv' → r_G m p n r0 g (upd gth m 1) (upd ge m (nI n)) (upd gf m (nI p)) (upd gr m (nI r0)) gk' gq' gR' gS' → (∀ e, e < 12 → gw' (12 * m + e) = 0) → r_kf m gk gq gw gR gS gk' gq' gw' gR' gS' → post (va_up iv 10 (nI r0)) gs' gp' fr' fc' gm' (upd gth m 1) (upd ge m (nI n)) (upd gf m (nI p)) (upd gr m (nI r0)) gk' gq' gw' gR' gS' go gz nv') : w66_wp post (nI m) iv gs gp fr fc gm gth ge gf gr gk gq gw gR gS go gz nv := by
  refine r_become (p := p) (n := n) (G := fun r piv K => r = r0 ∧ x_KK p n r piv K ∧ x_pp p r K g) hp hm hiv1 hiv hT (fun r piv K q => q.2.1) (fun post' hpost => ?_) (fun r piv K gs' gp' fr' fc' gm' gk' gq' gw' gR' gS' nv' q1 q2 q3 q4 q5 => ?_)
  · exact r_redG (A := A) (g := g) hp hiv hiv1 hiv0 hR hg.1 hX hz hlk hrg hg hof (fun piv K gs' gp' nv' b1 b2 a2 a3 => hpost r0 piv K gs' gp' nv' ⟨rfl, b1, b2⟩ a2 a3)
  · obtain ⟨e, b1, b2⟩ := q1
    subst e
    exact h gs' gp' fr' fc' gm' gk' gq' gw' gR' gS' nv' q2 ⟨hg, piv, K, q3, b2⟩ q4 q5
/-- the span of rows -/
def x_spn {F : Type} [Lean.Grind.CommRing F] (φ : Int → F) (r : Nat) (K : Nat → Nat → Int) : (Nat → F) → Prop := fun v => ∀ Q : (Nat → F) → Prop, x_cl Q → (∀ i, i < r → Q (x_ro φ (K i))) → Q v
theorem x_spnc {F : Type} [Lean.Grind.CommRing F] (φ : Int → F) (r : Nat) (K : Nat → Nat → Int) : x_cl (x_spn φ r K) := ⟨fun Q hQ _ => hQ.1, fun a b u v hu hv Q hQ hr => hQ.2.1 a b u v (hu Q hQ hr) (hv Q hQ hr), fun u v he hu Q hQ hr => hQ.2.2.1 u v he (hu Q hQ hr), fun c u hc hu Q hQ hr => hQ.2.2.2 c u hc (hu Q hQ hr)⟩
theorem x_spnr {F : Type} [Lean.Grind.CommRing F] {φ : Int → F} {r : Nat} {K : Nat → Nat → Int} {i : Nat} (hi : i < r) : x_spn φ r K (x_ro φ (K i)) := fun Q _ hr => hr i hi
theorem x_spnE {F : Type} [Lean.Grind.CommRing F] {φ : Int → F} (hm : x_hm p F φ) (h : x_pp p r K g) : x_E2 (x_spn φ r K) (fun S => φ (g S)) ∧ x_E3 (x_spn φ r K) (fun S => φ (g S)) := by
  obtain ⟨a, b, ha, hb, he⟩ := (x_ppR hm).1 h
  have hd := hm.1
  exact ⟨x_E2p hd (x_spnc φ r K) ha hb he (x_WE2 (x_spnc φ r K) (p := fun i => x_ro φ (K i)) (r := r) (fun i hi => x_spnr hi)), x_E3p hd ha hb he (x_WE3 hd (p := fun i => x_ro φ (K i)) (r := r) (fun v hv => hv _ (x_Zc hd _) (fun i hi => x_Wrow hi)))⟩
/-- kept rows, columns renamed: the numbers stay small in reduce -/
theorem x_KKdl {n0 : Nat} {k : Nat → Nat} (hK : x_KK 0 n0 r piv K) (hp : x_pp 0 r K g) (hk : ∀ j, j < n → k j < n0) : x_dl n r g k (fun i j => if j < n then K i (k j) else 0) := by
  obtain ⟨s2, g1, s3, s4, s5, s6, s7, s8, s9⟩ := hK
  have hpne : ∀ i i', i < i' → i' < r → piv i ≠ piv i' := fun i i' q1 q2 w => by have := s5 i i' q1 q2; omega
  obtain ⟨a, b, ha, hb, he⟩ := hp
  simp only [x_md0] at ha hb he
  have hps0 : ¬ x_W K r (x_ps piv r) = 0 := x_psW x_domI r hpne (fun i hi => ⟨by have := (s3 i hi).1; omega, by have := (s3 i hi).2; omega⟩) s4
  have hgps : ¬ g (x_ps piv r) = 0 := fun q => by
    have := he (x_ps piv r)
    rw [q, Int.mul_zero] at this
    rcases Int.mul_eq_zero.1 this with y | y
    · exact ha y
    · exact hps0 y
  have hbits := x_psb r (piv := piv) hpne
  refine ⟨K, piv, x_ps piv r, hgps, fun i hi => ⟨by have := (s3 i hi).1; omega, (hbits _).2 ⟨i, hi, rfl⟩⟩, fun e _ q => (hbits e).1 q, fun i hi => (x_Zp x_domI ha hb he (K i)).1 (x_Wrow hi), fun i hi => by have := (s3 i hi).2; omega, fun i i' q1 q2 q3 => s4 i' i q2 q1 (fun y => q3 y.symm), fun i hi => ⟨1, 1, by decide, by decide, fun j hj => ?_⟩⟩
  show 1 * (if j < n then K i (k j) else 0) = 1 * K i (k j)
  rw [if_pos hj]
end RBG
