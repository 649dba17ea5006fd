/-! PURE, the class: matroids made, each by its maker -/
theorem x_hoc {h0 h0' : Nat} {pt pt' : Nat → Option Nat} {cc cc' : Nat → Nat} {P P' : Nat → Bool} {a : Nat} (hh : h0' = h0) : ∀ n, (∀ e, e < n → pt' e = pt e ∧ cc' e = cc e ∧ P' e = P e) → x_ho h0' pt' cc' P' a n = x_ho h0 pt cc P a n
  | 0, _ => hh
  | n + 1, h => by
    have ih := x_hoc (h0 := h0) (h0' := h0') (pt := pt) (pt' := pt') (cc := cc) (cc' := cc') (P := P) (P' := P') (a := a) hh n (fun e he => h e (by omega))
    obtain ⟨e1, e2, e3⟩ := h n (by omega)
    show (if pt' n = some a ∧ P' n = true then x_ho h0' pt' cc' P' a n ||| 2 ^ cc' n else x_ho h0' pt' cc' P' a n) = (if pt n = some a ∧ P n = true then x_ho h0 pt cc P a n ||| 2 ^ cc n else x_ho h0 pt cc P a n)
    rw [e1, e2, e3, ih]
theorem x_PVg {p n : Nat} {g : Nat → Int} {pt pt' : Nat → Option Nat} {cc hd cc' hd' : Nat → Nat} {tb tb' : Nat → Bool} {Z Z' : Nat → Nat → Int} (h : x_PV p n g pt cc hd tb Z) (h1 : ∀ e, e < n → pt' e = pt e ∧ cc' e = cc e) (h2 : ∀ e x, e < n → pt e = some x → hd' x = hd x ∧ tb' x = tb x ∧ Z' x = Z x) : x_PV p n g pt' cc' hd' tb' Z' := by
  have hch : ∀ e x B, e < n → pt e = some x → x_chn hd' pt' cc' tb' n x B = x_chn hd pt cc tb n x B := fun e x B he hx => by
    obtain ⟨a1, a2, a3⟩ := h2 e x he hx
    unfold x_chn
    exact x_hoc a1 n (fun i hi => ⟨(h1 i hi).1, (h1 i hi).2, by rw [a2]⟩)
  refine ⟨fun B e x w he hx => ?_, fun B q e x y w hq he b1 b2 hx hy => ?_⟩
  · rw [(h1 e he).1] at hx
    rw [hch e x B he hx, (h2 e x he hx).2.2]
    exact h.1 B e x w he hx
  · rw [(h1 q hq).1] at hx
    rw [(h1 e he).1] at hy
    have := h.2 B q e x y w hq he b1 b2 hx hy
    rw [hch q x B hq hx, (h2 q x hq hx).2.2, (h2 q x hq hx).2.1, (h1 q hq).2, (h1 e he).2]
    exact this
section CM2
variable {np ns np' ns' p n r : Nat} {pp pp' : Nat → px_PR} {sp sn sm sp' sn' sm' : Nat → Nat} {sK sK' : Nat → Nat → Nat → Int} {M M' M0 M1 M'' : px_MR} {g : Nat → Int} {w : Nat → Int32}
/-- other parts, other sources come: the matroid tells of the same -/
theorem c_Gx (h : c_G np ns pp sp sn sm sK M p n r g w) (hp : np ≤ np') (hs : ns ≤ ns') (h1 : ∀ x, x < np → pp' x = pp x) (h2 : ∀ z, z < ns → sp' z = sp z ∧ sn' z = sn z ∧ sm' z = sm z ∧ sK' z = sK z) : c_G np' ns' pp' sp' sn' sm' sK' M p n r g w := by
  obtain ⟨a1, a2, a3, a4, a5, a6, a7, a8, a9⟩ := h
  refine ⟨a1, a2, a3, a4, a5, a6, a7, ⟨fun e he => ?_, a8.2.1, a8.2.2.1, fun e x he hx => ?_⟩, x_PVg a9 (fun _ _ => ⟨rfl, rfl⟩) (fun e x he hx => ?_)⟩
  · obtain ⟨x, x1, x2, x3, x4, x5, x6, x7⟩ := a8.1 e he
    obtain ⟨z1, z2, z3, z4⟩ := h2 (pp x).1 x3
    refine ⟨x, x1, by omega, ?_⟩
    rw [h1 x x2, z1, z2]
    exact ⟨by omega, x4, x5, x6, x7⟩
  · obtain ⟨y, x1, x2, x3, x4, x5, x6, x7⟩ := a8.1 e he
    rw [hx] at x1
    cases x1
    have := a8.2.2.2 e x he hx
    unfold c_hd at this ⊢
    rw [h1 x x2]
    exact this
  · obtain ⟨y, x1, x2, x3, x4, x5, x6, x7⟩ := a8.1 e he
    rw [hx] at x1
    cases x1
    obtain ⟨z1, z2, z3, z4⟩ := h2 (pp x).1 x3
    unfold c_hd c_tb c_Zp
    rw [h1 x x2, z3, z4]
    exact ⟨rfl, rfl, rfl⟩
/-- asked, it tells of the same -/
theorem c_Ga (h : c_G np ns pp sp sn sm sK M p n r g w) (hk : c_kn M' n r (x_bg p g)) (hf : c_fr M M') : c_G np ns pp sp sn sm sK M' p n r g w := by
  obtain ⟨a1, a2, a3, a4, a5, a6, a7, a8, a9⟩ := h
  obtain ⟨f1, f2, f3, f4⟩ := hf
  refine ⟨by rw [f1 12 (by decide) (by decide)]; exact a1, a2, a3, a4, hk, by rw [f3 6 (by omega)]; exact a6, by rw [f3 3 (by omega)]; exact a7, ?_, ?_⟩
  · rw [f3 2 (by omega), f4]; exact a8
  · rw [f3 2 (by omega), f4]; exact a9
/-- the parts of what is made tell of it -/
theorem c_Gm {g' : Nat → Int} {n' r' : Nat} {c : Nat → Int32} {pt : Nat → Option Nat} {f : Nat → Int32} {w' : Nat → Int32} (hp : x_pm p) (hg : x_gh p n' r' g') (hx : x_gx p n' g') (hv : c_vac M0) (hb : c_bgn M0 M' (nI p) n' (nI r')) (h1 : M''.2.1 = M'.2.1) (h2 : M''.2.2.1 = M'.2.2.1) (h5 : M''.2.2.2.1 5 = M'.2.2.2.1 5) (h6 : M''.2.2.2.1 6 = f) (hf : ∀ S, S < 2 ^ n' → f S = x_sgn2 p n' r' (x_Fg p g') S) (h3 : ∀ e, e < n' → M''.2.2.2.1 3 e = w' e) (hc : M''.2.2.2.1 2 = c) (hpt : M''.2.2.2.2.2 = pt) (hPG : c_PG np ns pp sp sn c pt p n') (hPV : x_PV p n' g' pt (c_cl c) (c_hd pp) (c_tb pp) (c_Zp sm sK pp)) : c_G np ns pp sp sn sm sK M'' p n' r' g' w' ∧ c_len M'' + M0.2.2.1 6 = c_len M0 + max (M0.2.2.1 6) (2 ^ n') ∧ M''.2.1 11 = M0.2.1 11 := by
  obtain ⟨m1, m2, m3, m4⟩ := c_mnew hp hg hx hv hb h1 h2 h5 (fun S hS => by rw [h6]; exact hf S hS)
  refine ⟨⟨m1, hp, hg, hx, m2, fun S hS => by rw [h6]; exact hf S hS, h3, by rw [hc, hpt]; exact hPG, by rw [hc, hpt]; exact hPV⟩, m3, m4⟩
theorem c_sg11 : ∀ (k : Nat) (M : px_MR) (c : Nat → Int32) (pt : Nat → Option Nat) (f : Nat → Int32), (c_set (c_pt M c pt) 6 f).2.1 k = M.2.1 k := fun _ _ _ _ _ => rfl
theorem c_Gd {c f : Nat → Int32} {pt : Nat → Option Nat} (hO : c_PO np ns pp) (h : c_G np ns pp sp sn sm sK M1 p n r g w) (hv : c_vac M0) (hb : c_bgn M0 M' (nI p) n (nI (n - r))) (hT : c_TP M1.2.2.2.2.2 (M1.2.2.2.1 2) (x_hd M1.2.2.2.2.2 (c_cl (M1.2.2.2.1 2)) 0 0 (c_tb pp) n) 1 (fun i => i) 0 np pp M0.2.2.2.2.2 (M0.2.2.2.1 2) n np' pp' pt c) (hf : ∀ S, S < 2 ^ n → f S = x_tu (nI p) (x_f1 (x_sdu n (x_sgn2 p n r (x_Fg p g))) n (n - r)) (x_sdu n (x_sgn2 p n r (x_Fg p g)) S)) :
    c_PO np' ns pp' ∧ c_G np' ns pp' sp sn sm sK (c_set (c_pt M' c pt) 6 f) p n (n - r) (x_fd n g) (fun _ => 0) ∧ c_len (c_set (c_pt M' c pt) 6 f) + M0.2.2.1 6 = c_len M0 + max (M0.2.2.1 6) (2 ^ n) := by
  obtain ⟨a1, a2, a3, a4, a5, a6, a7, a8, a9⟩ := h
  have hn := a3.1
  obtain ⟨t1, t2, t3⟩ := c_TPR (fl := true) (sm := sm) (sK := sK) (n' := n) hO a8 (fun i hi => hi) (fun i i' h1 h2 => h1) (fun e he => ⟨fun _ => ⟨e, he, rfl⟩, fun _ => Nat.zero_testBit e⟩) hT (by omega) (fun i j hi hj q => by omega)
  simp only [Nat.zero_add] at t3
  have := c_Gm (c := c) (pt := pt) (f := f) (w' := fun _ => 0) a2 (x_duG a2 a3) (x_gxd a3 a4) hv hb (M'' := c_set (c_pt M' c pt) 6 f) rfl rfl rfl rfl (fun S hS => by rw [hf S hS]; exact x_sgT a2 (c_pI a2) a3 S hS) (fun e he => hb.2.2.2.2.2.2.2.2.1 e (by omega)) rfl rfl t3 (x_PVd a2 hn a9 t2)
  exact ⟨t1, this.1, this.2.1⟩
theorem c_Gc {c f w' : Nat → Int32} {pt : Nat → Option Nat} (hO : c_PO np ns pp) (h : c_G np ns pp sp sn sm sK M1 p n r g w) (hv : c_vac M0) (hb : c_bgn M0 M' (nI p) n (nI r)) (hT : c_TP M1.2.2.2.2.2 (M1.2.2.2.1 2) (x_hd M1.2.2.2.2.2 (c_cl (M1.2.2.2.1 2)) 0 0 (c_tb pp) n) 0 (fun i => i) 0 np pp M0.2.2.2.2.2 (M0.2.2.2.1 2) n np' pp' pt c) (hw : ∀ e, e < n → w' e = M1.2.2.2.1 3 e) (hf : ∀ S, S < 2 ^ n → f S = x_sgn2 p n r (x_Fg p g) S) :
    c_PO np' ns pp' ∧ c_G np' ns pp' sp sn sm sK (c_set (c_set (c_pt M' c pt) 3 w') 6 f) p n r g w ∧ c_len (c_set (c_set (c_pt M' c pt) 3 w') 6 f) + M0.2.2.1 6 = c_len M0 + max (M0.2.2.1 6) (2 ^ n) := by
  obtain ⟨a1, a2, a3, a4, a5, a6, a7, a8, a9⟩ := h
  have hn := a3.1
  obtain ⟨t1, t2, t3⟩ := c_TPR (fl := false) (sm := sm) (sK := sK) (n' := n) hO a8 (fun i hi => hi) (fun i i' h1 h2 => h1) (fun e he => ⟨fun _ => ⟨e, he, rfl⟩, fun _ => Nat.zero_testBit e⟩) hT (by omega) (fun i j hi hj q => by omega)
  simp only [Nat.zero_add] at t3
  have := c_Gm (c := c) (pt := pt) (f := f) (w' := w) a2 a3 a4 hv hb (M'' := c_set (c_set (c_pt M' c pt) 3 w') 6 f) rfl rfl rfl rfl hf (fun e he => by show w' e = w e; rw [hw e he]; exact a7 e he) rfl rfl t3 (x_PVc a9 t2)
  exact ⟨t1, this.1, this.2.1⟩
theorem c_Gr {c f : Nat → Int32} {pt : Nat → Option Nat} {n' S U : Nat} {k : Nat → Nat} (hO : c_PO np ns pp) (h : c_G np ns pp sp sn sm sK M1 p n r g w) (hv : c_vac M0) (hS : S < 2 ^ n) (hk : x_kp (x_co n S) n' k) (hn' : n' ≤ 12) (hU : x_Uc p n g S U ∨ x_Ud p n g S U) (hb : c_bgn M0 M' (nI p) n' (nI (r - x_n U))) (hT : c_TP M1.2.2.2.2.2 (M1.2.2.2.1 2) (x_hd M1.2.2.2.2.2 (c_cl (M1.2.2.2.1 2)) S U (c_tb pp) n) 0 k 0 np pp M0.2.2.2.2.2 (M0.2.2.2.1 2) n' np' pp' pt c) (hf : ∀ T, T < 2 ^ n' → f T = x_tu (nI p) (x_f1 (x_sre n' k U (x_sgn2 p n r (x_Fg p g))) n' (r - x_n U)) (x_sre n' k U (x_sgn2 p n r (x_Fg p g)) T)) :
    c_PO np' ns pp' ∧ c_G np' ns pp' sp sn sm sK (c_set (c_pt M' c pt) 6 f) p n' (r - x_n U) (x_fr n' k U g) (fun _ => 0) ∧ c_len (c_set (c_pt M' c pt) 6 f) + M0.2.2.1 6 = c_len M0 + max (M0.2.2.1 6) (2 ^ n') := by
  obtain ⟨a1, a2, a3, a4, a5, a6, a7, a8, a9⟩ := h
  have hn := a3.1
  have u1 : U < 2 ^ n := hU.elim (fun z => z.1) (fun z => z.1)
  have u2 : ∀ e, U.testBit e = true → S.testBit e = true := hU.elim (fun z => z.2.1) (fun z => z.2.1)
  have u3 := hU.elim (fun z => z.2.2.1) (fun z => z.2.2.1)
  have hUr : x_n U ≤ r := by
    obtain ⟨T, t1, t2, t3⟩ := u3
    have h1 := (a3.2.1 T t1).2
    have h2 : x_n U ≤ x_n T := x_cnle 12 (fun i _ hi => t2 i hi)
    omega
  have hkk : ∀ i, i < n' → k i < n ∧ S.testBit (k i) = false := fun i hi => (x_cobS hS).1 (hk.2.1 i hi)
  have hk3 : ∀ e, e < n → (S.testBit e = false ↔ ∃ i, i < n' ∧ k i = e) := fun e he => by
    constructor
    · intro q
      have := hk.2.2 e (by omega) ((x_cobS hS).2 ⟨he, q⟩)
      exact ⟨_, this.1, this.2⟩
    · intro ⟨i, i1, i2⟩
      rw [← i2]; exact (hkk i i1).2
  have hUk : ∀ j, j < n' → U.testBit (k j) = false := fun j hj => Bool.eq_false_iff.2 (fun q => by have w := (hkk j hj).2; rw [u2 _ q] at w; exact Bool.noConfusion w)
  obtain ⟨t1, t2, t3⟩ := c_TPR (fl := false) (sm := sm) (sK := sK) (n' := n') hO a8 (fun i hi => (hkk i hi).1) (fun i i' h1 h2 => hk.1.1 i i' h1 h2) hk3 hT (by omega) (fun i j hi hj q => by omega)
  simp only [Nat.zero_add] at t3
  have hg' := x_frG a2 a3 hS u1 u2 hk hn' u3
  have hx' : x_gx p n' (x_fr n' k U g) := hU.elim (fun z => x_gxc a2 a3 a4 hS hk hn' z) (fun z => x_gxl a2 a3 a4 hS hk hn' z)
  have := c_Gm (c := c) (pt := pt) (f := f) (w' := fun _ => 0) a2 hg' hx' hv hb (M'' := c_set (c_pt M' c pt) 6 f) rfl rfl rfl rfl (fun S' hS' => by rw [hf S' hS']; exact x_sgR a2 (c_pI a2) a3 hS u1 u2 hk hn' hUr hg' S' hS') (fun e he => hb.2.2.2.2.2.2.2.2.1 e (by omega)) rfl rfl t3 (x_PVr a2 hn hn' hk.1 hUk (fun e he q i hi z => by rw [← z, (hkk i hi).2] at q; exact Bool.noConfusion q) a9 t2)
  exact ⟨t1, this.1, this.2.1⟩
theorem c_Gs {c f : Nat → Int32} {pt : Nat → Option Nat} {K : Nat → Nat → Int} (hO : c_PO np ns pp) (hp : x_pm p) (hg : x_gh p n r (x_W K r)) (hx : x_gx p n (x_W K r)) (hv : c_vac M0) (hb : c_bgn M0 M' (nI p) n (nI r)) (hcp : ∀ e, e < n → c e = nI e ∧ pt e = some np) (hf : ∀ S, S < 2 ^ n → f S = x_sgn2 p n r (x_Fg p (x_W K r)) S) (hsp : sp' ns = p ∧ sn' ns = n ∧ sm' ns = r ∧ sK' ns = K) :
    c_PO (np + 1) (ns + 1) (va_up pp np (ns, 0, 0)) ∧ c_G (np + 1) (ns + 1) (va_up pp np (ns, 0, 0)) sp' sn' sm' sK' (c_set (c_pt M' c pt) 6 f) p n r (x_W K r) (fun _ => 0) ∧ c_len (c_set (c_pt M' c pt) 6 f) + M0.2.2.1 6 = c_len M0 + max (M0.2.2.1 6) (2 ^ n) := by
  have hn := hg.1
  obtain ⟨s1, s2, s3, s4⟩ := hsp
  have hO' : c_PO (np + 1) (ns + 1) (va_up pp np (ns, 0, 0)) := fun x hx => by
    by_cases q : x = np
    · rw [q, va_up_self]; exact ⟨Or.inl rfl, Nat.lt_succ_self ns⟩
    · rw [va_up_ne _ _ q]
      have := hO x (by omega)
      exact ⟨this.1, by omega⟩
  have hPG : c_PG (np + 1) (ns + 1) (va_up pp np (ns, 0, 0)) sp' sn' c pt p n := by
    refine ⟨fun e he => ⟨np, (hcp e he).2, Nat.lt_succ_self np, ?_⟩, fun i i' i'' h1 h2 h3 _ => by rw [(hcp i' (by omega)).2, (hcp i'' h3).2], fun e e' x h1 h2 _ _ h5 => ?_, fun e x he hx => ?_⟩
    · rw [va_up_self]
      refine ⟨Nat.lt_succ_self ns, s1, by show sn' ns ≤ 12; rw [s2]; exact hn, ⟨e, (hcp e he).1, by show e < sn' ns; rw [s2]; exact he⟩, ⟨0, rfl, Nat.two_pow_pos _⟩⟩
    · unfold c_cl at h5
      rw [(hcp e h1).1, (hcp e' h2).1, nI_clamp (by omega), nI_clamp (by omega)] at h5
      exact h5
    · rw [(hcp e he).2] at hx
      cases hx
      unfold c_hd
      rw [va_up_self]
      exact Nat.zero_testBit _
  have := c_Gm (c := c) (pt := pt) (f := f) (sm := sm') (sK := sK') (w' := fun _ => 0) hp hg hx hv hb (M'' := c_set (c_pt M' c pt) 6 f) rfl rfl rfl rfl hf (fun e he => hb.2.2.2.2.2.2.2.2.1 e (by omega)) rfl rfl hPG (x_PVs hg (fun e he => (hcp e he).2) (fun e he => by unfold c_cl; rw [(hcp e he).1, nI_clamp (by omega)]) (by unfold c_hd; rw [va_up_self]; rfl) (by unfold c_tb; rw [va_up_self]; rfl) (by unfold c_Zp; rw [va_up_self]; show x_W (sK' ns) (sm' ns) = _; rw [s3, s4]))
  exact ⟨hO', this.1, this.2.1⟩
theorem c_Gj {c f c1 : Nat → Int32} {pt pt1 : Nat → Option Nat} {n2 r2 np1 : Nat} {pp1 : Nat → px_PR} {M2 : px_MR} {g2 : Nat → Int} {w2 : Nat → Int32} (hO : c_PO np ns pp) (h : c_G np ns pp sp sn sm sK M1 p n r g w) (h' : c_G np ns pp sp sn sm sK M2 p n2 r2 g2 w2) (hnn : n + n2 ≤ 12) (hv : c_vac M0) (hb : c_bgn M0 M' (nI p) (n + n2) (nI (r + r2))) (hT1 : c_TP M1.2.2.2.2.2 (M1.2.2.2.1 2) (x_hd M1.2.2.2.2.2 (c_cl (M1.2.2.2.1 2)) 0 0 (c_tb pp) n) 0 (fun i => i) 0 np pp M0.2.2.2.2.2 (M0.2.2.2.1 2) n np1 pp1 pt1 c1) (hT2 : c_TP M2.2.2.2.2.2 (M2.2.2.2.1 2) (x_hd M2.2.2.2.2.2 (c_cl (M2.2.2.2.1 2)) 0 0 (c_tb pp1) n2) 0 (fun i => i) n np1 pp1 pt1 c1 n2 np' pp' pt c) (hf : ∀ S, S < 2 ^ (n + n2) → f S = x_sjo n (x_sgn2 p n r (x_Fg p g)) (x_sgn2 p n2 r2 (x_Fg p g2)) S) :
    c_PO np' ns pp' ∧ c_G np' ns pp' sp sn sm sK (c_set (c_pt M' c pt) 6 f) p (n + n2) (r + r2) (x_fj n n2 g g2) (fun _ => 0) ∧ c_len (c_set (c_pt M' c pt) 6 f) + M0.2.2.1 6 = c_len M0 + max (M0.2.2.1 6) (2 ^ (n + n2)) := by
  have h2 : c_G np1 ns pp1 sp sn sm sK M2 p n2 r2 g2 w2 := c_Gx h' hT1.lo (Nat.le_refl _) hT1.low (fun z _ => ⟨rfl, rfl, rfl, rfl⟩)
  obtain ⟨a1, a2, a3, a4, a5, a6, a7, a8, a9⟩ := h
  obtain ⟨b1, b2, b3, b4, b5, b6, b7, b8, b9⟩ := h2
  have hz : ∀ k e, e < k → ((0 : Nat).testBit e = false ↔ ∃ i, i < k ∧ i = e) := fun k e he => ⟨fun _ => ⟨e, he, rfl⟩, fun _ => Nat.zero_testBit e⟩
  -- parts of the first, seen at the end
  have p1 : ∀ i, i < n → ∃ b, pt i = some b ∧ np ≤ b ∧ b < np1 ∧ pt1 i = some b ∧ pp' b = pp1 b ∧ c i = c1 i := fun i hi => by
    obtain ⟨a, b, t1, t2, t3, t4, t5, t6⟩ := hT1.prt i hi
    rw [Nat.zero_add] at t3
    exact ⟨b, by rw [hT2.pout i (Or.inl hi)]; exact t3, t4, t5, t3, hT2.low b t5, hT2.cout i (Or.inl hi)⟩
  have p2 : ∀ i, i < n2 → ∃ b, pt (n + i) = some b ∧ np1 ≤ b := fun i hi => by
    obtain ⟨a, b, t1, t2, t3, t4, t5, t6⟩ := hT2.prt i hi
    exact ⟨b, t3, t4⟩
  have hdis : ∀ i j, i < n → j < n2 → pt i ≠ pt (n + j) := fun i j hi hj q => by
    obtain ⟨b, x1, x2, x3, _⟩ := p1 i hi
    obtain ⟨d, y1, y2⟩ := p2 j hj
    rw [x1, y1] at q
    cases q
    omega
  obtain ⟨s1, s2, s3⟩ := c_TPR (fl := false) (sm := sm) (sK := sK) (n' := n) hO a8 (fun i hi => hi) (fun i i' h1 h2 => h1) (hz n) hT1 (by omega) (fun i j hi hj q => by omega)
  obtain ⟨t1, t2, t3⟩ := c_TPR (fl := false) (sm := sm) (sK := sK) (n' := n + n2) s1 b8 (fun i hi => hi) (fun i i' h1 h2 => h1) (hz n2) hT2 (by omega) (fun i j hi hj q e => by
    rcases q with q | q
    · exact hdis j i q hi e.symm
    · omega)
  simp only [Nat.zero_add] at s3
  have s2' : x_TR n n 0 (n + n2) (fun i => i) 0 0 false M1.2.2.2.2.2 (c_cl (M1.2.2.2.1 2)) (c_hd pp) (c_tb pp) (c_Zp sm sK pp) pt (c_cl c) (c_hd pp') (c_tb pp') (c_Zp sm sK pp') := by
    obtain ⟨u1, u2, u3, u4, u5, u6, u7⟩ := s2
    refine ⟨by omega, u2, u3, fun i hi => ?_, fun i hi => ?_, fun i i' hi hi' => ?_, fun i j hi hj q => ?_⟩
    · obtain ⟨b, x1, x2, x3, x4, x5, x6⟩ := p1 i hi
      rw [← u4 i hi, Nat.zero_add]
      unfold c_cl; rw [x6]
    · obtain ⟨a, b, y1, y2, y3, y4, y5⟩ := u5 i hi
      obtain ⟨b', x1, x2, x3, x4, x5, x6⟩ := p1 i hi
      rw [Nat.zero_add, x4] at y2
      cases y2
      refine ⟨a, b, y1, by rw [Nat.zero_add]; exact x1, ?_, ?_, ?_⟩
      · rw [← y3]; unfold c_hd; rw [x5]
      · rw [← y4]; unfold c_tb; rw [x5]
      · rw [← y5]; unfold c_Zp; rw [x5]
    · rw [← u6 i i' hi hi', Nat.zero_add, Nat.zero_add, hT2.pout i (Or.inl hi), hT2.pout i' (Or.inl hi')]
    · rw [Nat.zero_add]
      obtain ⟨j', rfl⟩ : ∃ j', j = n + j' := ⟨j - n, by omega⟩
      exact hdis i j' hi (by omega)
  have hPG : c_PG np' ns pp' sp sn c pt p (n + n2) := by
    refine ⟨fun e he => ?_, fun i i' i'' h1 h2 h3 he => ?_, fun e e' x h1 h2 x1 x2 h5 => ?_, fun e x he hx => ?_⟩
    · by_cases q : e < n
      · obtain ⟨b', x1, x2, x3, x4, x5, x6⟩ := p1 e q
        obtain ⟨y, y1, y2, y3, y4, y5, y6, y7⟩ := s3.1 e q
        have y1 : pt1 e = some y := y1
        rw [x4] at y1
        cases y1
        refine ⟨b', x1, Nat.lt_of_lt_of_le x3 hT2.lo, ?_⟩
        rw [x5, x6]
        exact ⟨y3, y4, y5, y6, y7⟩
      · obtain ⟨i, rfl⟩ : ∃ i, e = n + i := ⟨e - n, by omega⟩
        exact t3.1 i (by omega)
    · by_cases q : i < n
      · by_cases q2 : i'' < n
        · have e1 : pt1 i = pt1 i'' := by rw [← hT2.pout i (Or.inl q), ← hT2.pout i'' (Or.inl q2)]; exact he
          rw [hT2.pout i' (Or.inl (by omega)), hT2.pout i'' (Or.inl q2)]
          exact s3.2.1 i i' i'' h1 h2 q2 e1
        · obtain ⟨j, rfl⟩ : ∃ j, i'' = n + j := ⟨i'' - n, by omega⟩
          exact absurd he (hdis i j q (by omega))
      · obtain ⟨j, rfl⟩ : ∃ j, i = n + j := ⟨i - n, by omega⟩
        obtain ⟨j', rfl⟩ : ∃ j, i' = n + j := ⟨i' - n, by omega⟩
        obtain ⟨j'', rfl⟩ : ∃ j, i'' = n + j := ⟨i'' - n, by omega⟩
        exact t3.2.1 j j' j'' (by omega) (by omega) (by omega) he
    · by_cases q : e < n
      · by_cases q' : e' < n
        · obtain ⟨b1', y1, y2, y3, y4, y5, y6⟩ := p1 e q
          obtain ⟨b2', z1, z2, z3, z4, z5, z6⟩ := p1 e' q'
          rw [y1] at x1
          cases x1
          rw [z1] at x2
          cases x2
          unfold c_cl at h5
          rw [y6, z6] at h5
          exact s3.2.2.1 e e' x q q' y4 z4 h5
        · obtain ⟨j, rfl⟩ : ∃ j, e' = n + j := ⟨e' - n, by omega⟩
          exact absurd (by rw [x1, x2]) (hdis e j q (by omega))
      · obtain ⟨j, rfl⟩ : ∃ j, e = n + j := ⟨e - n, by omega⟩
        by_cases q' : e' < n
        · exact absurd (by rw [x1, x2]) (hdis e' j q' (by omega))
        · obtain ⟨j', rfl⟩ : ∃ j, e' = n + j := ⟨e' - n, by omega⟩
          have := t3.2.2.1 j j' x (by omega) (by omega) x1 x2 h5
          omega
    · by_cases q : e < n
      · obtain ⟨b1', y1, y2, y3, y4, y5, y6⟩ := p1 e q
        rw [y1] at hx
        cases hx
        have := s3.2.2.2 e x q y4
        unfold c_hd c_cl at this ⊢
        rw [y5, y6]
        exact this
      · obtain ⟨j, rfl⟩ : ∃ j, e = n + j := ⟨e - n, by omega⟩
        exact t3.2.2.2 j x (by omega) hx
  have := c_Gm (c := c) (pt := pt) (f := f) (w' := fun _ => 0) a2 (x_smG a2 hnn a3 b3) (x_gxj hnn a3 b3 a4 b4) hv hb (M'' := c_set (c_pt M' c pt) 6 f) rfl rfl rfl rfl (fun S hS => by rw [hf S hS]; exact x_sgJ a2 hnn a3 b3 S hS) (fun e he => hb.2.2.2.2.2.2.2.2.1 e (by omega)) rfl rfl hPG (x_PVj a2 hnn a3 b3 a9 b9 s2' t2)
  exact ⟨t1, this.1, this.2.1⟩
end CM2
