/-! PURE, the class: makeOfNumbers -/
def x_raw (p n k : Nat) (R : Nat → Nat → Int) : x_LR := (p, n, (x_gk p n R k).1, x_W (x_gk p n R k).2 (x_gk p n R k).1, fun _ => 0)
/-- tables of minors: what is loaded is a source's -/
def c_MN (ns : Nat) (sa : Nat → Nat) (sp sn sm : Nat → Nat) (sK : Nat → Nat → Nat → Int) (l : Nat) (mf mz mh : Int32) (ml : Option Nat) (gl gm gh : Nat → Int64) : Prop :=
  l ≤ 4096 ∧ c_p2 l ∧ 16 ≤ l ∧ (∀ z, z < ns → 2 ^ sn z ≤ l) ∧ ∀ c, ml = some c → ∃ z, z < ns ∧ sa z = c ∧ mf = nI (sp z) ∧ mz = nI (sn z) ∧ mh = nI (sm z) ∧ ∀ T, T < 2 ^ sn z → mn (x_za (sp z) (sn z) (sK z) (sm z) T) (gl T) (gm T) (gh T)
/-- what makeOfNumbers leaves behind -/
def c_mnP (mm : Nat → px_MR) (a0 cm np ns : Nat) (pa sa : Nat → Nat) (pp : Nat → px_PR) (ss : Nat → px_SR) (sp sn sm : Nat → Nat) (sK : Nat → Nat → Nat → Int) (l_o q l : Nat) (C : x_LR) (l_o' : Nat) (o' : Int32) (g' t' : Nat → Int32) (l' : Nat) (mf mz mh : Int32) (ml : Option Nat) (gl gm gh : Nat → Int64) (mm' : Nat → px_MR) (np' ns' : Nat) (pa' sa' : Nat → Nat) (pp' : Nat → px_PR) (ss' : Nat → px_SR) : Prop :=
  l_o' = o_ln l_o C.2.1 ∧ o_Ok l_o' o' g' t' (max q C.2.1) ∧ l' = max l (2 ^ C.2.1) ∧ np' = np + 1 ∧ ns' = ns + 1 ∧ (∀ x, x < np → pa' x = pa x) ∧ (∀ x, x < np → pp' x = pp x) ∧ (∀ z, z < ns → sa' z = sa z ∧ ss' z = ss z) ∧ c_PO np' ns' pp' ∧ px_pok cm np' mm' ∧ ∃ (sp' sn' sm' : Nat → Nat) (sK' : Nat → Nat → Nat → Int) (M : px_MR), (∀ z, z < ns → sp' z = sp z ∧ sn' z = sn z ∧ sm' z = sm z ∧ sK' z = sK z) ∧ sn' ns = C.2.1 ∧ c_SS ns' ss' sp' sn' sm' sK' ∧ c_MN ns' sa' sp' sn' sm' sK' l' mf mz mh ml gl gm gh ∧ mm' = va_up mm a0 M ∧ c_GL np' ns' pp' sp' sn' sm' sK' M C ∧ c_lv M = x_g6 C.2.1 (c_lv (mm a0)) ∧ M.2.1 11 = (mm a0).2.1 11
theorem o_lnn (l n : Nat) : o_ln (o_ln l n) n = o_ln l n := by
  unfold o_ln
  by_cases q : 2 ^ (n + 1) ≤ l
  · rw [if_pos q, if_pos q]
  · rw [if_neg q, if_pos (Nat.le_refl _)]
theorem c_p2m {l n : Nat} (h : c_p2 l) : c_p2 (max l (2 ^ n)) := by
  rcases Nat.le_total l (2 ^ n) with q | q
  · rw [Nat.max_eq_right q]; exact ⟨n, rfl⟩
  · rw [Nat.max_eq_left q]; exact h
theorem x_pmb {p : Nat} (h : x_pm p) : p ≠ 1 ∧ p < 252 := by
  rcases h with h | h
  · subst h; exact ⟨by decide, by decide⟩
  · exact ⟨by omega, h.2.1⟩
section CMN
variable {cm ns np a0 : Nat} {sa pa : Nat → Nat} {ss : Nat → px_SR} {pp : Nat → px_PR} {sp sn sm : Nat → Nat} {sK : Nat → Nat → Nat → Int} {mc ms : Nat} {q_o l_o q : Nat} {o_r : Int32} {g_o g_t : Nat → Int32} {mm : Nat → px_MR} {q_l q_m q_h l p n k n_r : Nat} {mf mz mh : Int32} {ml : Option Nat} {gl gm gh : Nat → Int64} {R : Nat → Nat → Int} {g_r : Nat → Int32}
theorem c_gs {P : (Nat → Int32) → Nat → Nat → Int32 → (Nat → Int32) → (Nat → Int32) → (Nat → px_MR) → Nat → Nat → Nat → Nat → Nat → Nat → Int32 → Int32 → Int32 → Option Nat → (Nat → Int64) → (Nat → Int64) → (Nat → Int64) → Nat → (Nat → Nat) → (Nat → Nat) → (Nat → px_PR) → (Nat → px_SR) → Prop} (ha0 : a0 < cm) (hp : x_pm p) (hn : n ≤ 12) (hk : k * n ≤ n_r) (hk2 : k < 2 ^ 31) (hnr : n_r < 2 ^ 31) (hR : ∀ i e, (R i e).natAbs ≤ 999) (hz0 : ∀ i, x_z0 n (R i)) (hg : ∀ i, i < k → ∀ e, e < n → g_r (i * n + e) = Int32.ofInt (R i e)) (hO : c_PO np ns pp) (hSS : c_SS ns ss sp sn sm sK) (hMN : c_MN ns sa sp sn sm sK l mf mz mh ml gl gm gh) (hpok : px_pok cm np mm) (ho : o_Ok l_o o_r g_o g_t q) (hv : c_vac (mm a0))
    (hmc : (if 2 ^ n ≤ l then 0 else 3) + (if 2 ^ (n + 1) ≤ l_o then 0 else 1) + 2 + (c_bgc (o_ln l_o n) (mm a0) n + 1) ≤ mc) (hms : (if 2 ^ n ≤ l then 0 else 3 * 2 ^ n) + (if 2 ^ (n + 1) ≤ l_o then 0 else 2 ^ (n + 1)) + min k n * n + 4 + (c_bgs (o_ln l_o n) (mm a0) n + 3) ≤ ms)
    (h : ∀ q_o' l_o' o' g' t' mm' q_l' q_m' q_h' l' mf' mz' mh' ml' gl' gm' gh' np' pa' sa' pp' ss', c_mnP mm a0 cm np ns pa sa pp ss sp sn sm sK l_o q l (x_raw p n k R) l_o' o' g' t' l' mf' mz' mh' ml' gl' gm' gh' mm' np' (ns + 1) pa' sa' pp' ss' → P g_r q_o' l_o' o' g' t' mm' q_l' q_m' q_h' l' l' l' mf' mz' mh' ml' gl' gm' gh' np' pa' sa' pp' ss') :
    ∃ m1 s1 : Nat, 0 + m1 ≤ mc ∧ 0 + s1 ≤ ms ∧ (w179_wp n_r m1 s1 (fun nq nqr nn zf zs zh nf v2 v3 v4 v5 v6 v7 v8 v9 v10 v11 v12 v13 v14 v15 v16 v17 v18 v19 v20 => px_sok np ns pp ∧ (∀ (sa24 : Nat → Nat) (ss24 : Nat → px_SR), sa24 = va_up sa ns nq → ss24 = va_up ss ns (nqr, zf, zs, zh, nn, nf) → (∃ m2 s2 : Nat, 0 + m1 + m2 ≤ mc ∧ 0 + s1 + s2 ≤ ms ∧ a0 < cm ∧ (w245_wp a0 cm (ns + 1) sa24 ss24 ns m2 s2 (fun v25 v26 v27 v28 v29 v30 v31 v32 v33 v34 v35 v36 v37 v38 v39 v40 v41 v42 v43 v44 v45 v46 => P v20 v25 v26 v27 v28 v29 v30 v31 v32 v33 v34 v35 v36 v37 v38 v39 v40 v41 v42 v43 v44 v45 sa24 v46 ss24) v15 v16 v17 v18 v19 mm v2 v3 v4 v5 v6 v7 v8 v9 v10 v11 v12 v13 v14 np pa pp)))) (nI p) (nI n) (nI k) q_l q_m q_h l l l mf mz mh ml gl gm gh q_o l_o o_r g_o g_t g_r) := by
  obtain ⟨p1, p2⟩ := x_pmb hp
  obtain ⟨v1, v2, v3, v4, v5⟩ := id hv
  obtain ⟨m1, m2, m3, m4, m5⟩ := hMN
  have h2n : 2 ^ n ≤ 4096 := Nat.pow_le_pow_right (n := 2) (by decide) hn
  refine ⟨_, _, by rw [Nat.zero_add]; exact Nat.le_trans (Nat.le_add_right _ _) hmc, by rw [Nat.zero_add]; exact Nat.le_trans (Nat.le_add_right _ _) hms, c_gather ho hn m1 p1 (by omega) hk hk2 hnr hR hg (Nat.le_refl _) (Nat.le_refl _) (fun a b f ql' qm' qh' gl' gm' gh' qo' o' g' t' hT hf ho' => ⟨fun x hx => (hO x hx).2, fun sa' ss' esa ess => ?_⟩)⟩
  obtain ⟨k1, k2, k3⟩ := x_gkb (p := p) hn hR k
  have k4 := x_gkn (p := p) (R := R) hn k
  obtain ⟨hgh, hof⟩ := x_rawG (k := k) hp hn hz0 hR
  generalize hr : (x_gk p n R k).1 = r at *
  generalize hKK : (x_gk p n R k).2 = K at *
  have ens : ss' ns = (b, nI p, nI n, nI r, min k n * n, f) := by rw [ess, va_up_self]
  refine ⟨c_bgc (o_ln l_o n) (mm a0) n + 1, c_bgs (o_ln l_o n) (mm a0) n + 3, by rw [Nat.zero_add]; exact hmc, by rw [Nat.zero_add]; exact hms, ha0, c_span (Z := x_za p n K r) (p := nI p) (n := n) (r := r) ha0 (Nat.lt_succ_self ns) hn k1 (by rw [ens]) (by rw [ens]) (by rw [ens]) v2 ho' (Nat.le_max_right _ _) hT (fun T => (x_zab hn k3 (by omega) T).1) hpok (Nat.le_refl _) (Nat.le_refl _) (fun q' o'' g'' t'' M' c pt f' q16 ho'' hb hcp hpt hf' => ?_)⟩
  rw [o_lnn, show max (max q n) n = max q n by omega] at ho''
  rw [o_lnn]
  have hsg := x_sgS (pI := nI p) hn (c_pI hp) hgh (Z := x_za p n K r) (fun S hS hSr => by unfold x_za; rw [if_pos ⟨hS, by omega⟩, hSr])
  obtain ⟨r1, r2, r3⟩ := c_Gs (f := f') (c := c) (pt := pt) (sp' := va_up sp ns p) (sn' := va_up sn ns n) (sm' := va_up sm ns r) (sK' := va_up sK ns K) hO hp hgh (x_gxo (fun i _ => hz0 i) hof) hv hb hcp (fun S hS => by rw [hf' S hS]; exact hsg S hS) ⟨va_up_self _ _ _, va_up_self _ _ _, va_up_self _ _ _, va_up_self _ _ _⟩
  have hmn : min k n * n ≤ 12 * 12 := Nat.mul_le_mul (by omega) hn
  have hlo : ∀ z, z < ns → va_up sp ns p z = sp z ∧ va_up sn ns n z = sn z ∧ va_up sm ns r z = sm z ∧ va_up sK ns K z = sK z := fun z hz => by
    have : z ≠ ns := by omega
    exact ⟨va_up_ne _ _ this, va_up_ne _ _ this, va_up_ne _ _ this, va_up_ne _ _ this⟩
  have hraw : x_raw p n k R = (p, n, r, x_W K r, fun _ => 0) := by unfold x_raw; rw [hr, hKK]
  have hSR : c_SR (ss' ns) p n r K := by
    rw [ens]
    refine ⟨rfl, rfl, rfl, hn, k1, Nat.mul_le_mul_right n (show r ≤ min k n by omega), by show min k n * n < 2 ^ 31; omega, k3, hf, k4⟩
  refine h _ _ _ _ _ _ _ _ _ _ _ _ _ _ _ _ _ _ _ _ _ _ ?_
  rw [hraw]
  refine ⟨rfl, ho'', rfl, rfl, rfl, fun x hx => va_up_ne _ _ (by omega), fun x hx => va_up_ne _ _ (by omega), fun z hz => ⟨by rw [esa, va_up_ne _ _ (by omega)], by rw [ess, va_up_ne _ _ (by omega)]⟩, r1, ?_, va_up sp ns p, va_up sn ns n, va_up sm ns r, va_up sK ns K, _, hlo, va_up_self _ _ _, ?_, ?_, rfl, r2, c_bgl hb rfl rfl⟩
  · refine c_pokup hpok (Nat.le_succ np) (fun e y hy => ?_)
    have hy : pt e = some y := hy
    by_cases w : e < n
    · rw [(hcp e w).2] at hy; cases hy; exact Nat.lt_succ_self np
    · rw [hpt e (by omega)] at hy
      have := hpok a0 ha0 e y hy
      omega
  · intro z hz
    by_cases w : z = ns
    · subst w
      rw [va_up_self, va_up_self, va_up_self, va_up_self]
      exact ⟨hSR, hp⟩
    · obtain ⟨e1, e2, e3, e4⟩ := hlo z (by omega)
      rw [e1, e2, e3, e4, ess, va_up_ne _ _ w]
      exact hSS z (by omega)
  · refine ⟨by omega, c_p2m m2, by omega, fun z hz => ?_, fun c hc => ⟨ns, Nat.lt_succ_self ns, ?_, ?_, ?_, ?_, ?_⟩⟩
    · by_cases w : z = ns
      · rw [w, va_up_self]; exact Nat.le_max_right _ _
      · rw [(hlo z (by omega)).2.1]
        exact Nat.le_trans (m4 z (by omega)) (Nat.le_max_left _ _)
    · cases hc; rw [esa, va_up_self]
    · rw [va_up_self]
    · rw [va_up_self]
    · rw [va_up_self]
    · rw [va_up_self, va_up_self, va_up_self, va_up_self]; exact hT
/-- the rows of the numbers vs, as they stand -/
def x_mtR (n : Nat) (vs : List Int32) (i e : Nat) : Int := if e < n then (vs.getD (i * n + e) 0).toInt else 0
theorem x_mtZ (n : Nat) (vs : List Int32) (i : Nat) : x_z0 n (x_mtR n vs i) := fun e he => by unfold x_mtR; rw [if_neg (by omega)]
theorem x_mtB {n : Nat} {vs : List Int32} (h : ∀ x, x ∈ vs → -999 ≤ x.toInt ∧ x.toInt ≤ 999) (i e : Nat) : (x_mtR n vs i e).natAbs ≤ 999 := by
  unfold x_mtR
  split
  · have := t_gdb h (i * n + e)
    omega
  · exact Nat.zero_le _
theorem x_grZ (n : Nat) (vs : List Int32) (i : Nat) : x_z0 n (x_grA n vs i) := fun e he => by unfold x_grA; rw [if_neg (by omega)]
theorem x_grB (n : Nat) (vs : List Int32) (i e : Nat) : (x_grA n vs i e).natAbs ≤ 999 := by
  unfold x_grA
  split
  · split
    · decide
    · split
      · decide
      · split <;> decide
  · decide
theorem x_biZ (n : Nat) (i : Nat) : x_z0 n (x_biA n i) := fun e he => by unfold x_biA; rw [if_neg (by omega)]
theorem x_binz : ∀ e k, e < k → x_bin e k = 0
  | 0, k + 1, _ => rfl
  | e + 1, k + 1, h => by
    show x_bin e k + x_bin e (k + 1) = 0
    rw [x_binz e k (by omega), x_binz e (k + 1) (by omega)]
theorem x_biB {n : Nat} (hn : n ≤ 12) (i e : Nat) : (x_biA n i e).natAbs ≤ 999 := by
  unfold x_biA
  split
  · by_cases q : e < i
    · rw [x_binz e i q]; decide
    · have h : ∀ e, e < 12 → ∀ i, i < 12 → x_bin e i ≤ 999 := by decide
      have := h e (by omega) i (by omega)
      omega
  · decide
theorem b_dv2 : ∀ n, n < 13 → nI (2 * n) / 2 = nI n := by decide
theorem c_vs1 : ∀ v, v < 3 → (px_vs.getD v 0 = 1 ↔ v = 0) ∧ (px_vs.getD v 0 = 2 ↔ v = 1) := by decide
def c_nm (sv : Nat) (sd sh sx smn sr : Int32) (gn : Nat → Int32) (vs : List Int32) (p n k : Nat) (R : Nat → Nat → Int) : Prop :=
  (sv = 0 ∧ sd = nI p ∧ sh = nI n ∧ sr = nI k ∧ k ≤ 12 ∧ vs.length = k * n ∧ (∀ x, x ∈ vs → -999 ≤ x.toInt ∧ x.toInt ≤ 999) ∧ (∀ j x, j < 160 → vs[j]? = some x → gn j = x) ∧ R = x_mtR n vs) ∨ (sv = 1 ∧ p = 0 ∧ sh = nI k ∧ smn = nI vs.length ∧ vs.length = 2 * n ∧ k ≤ 13 ∧ t_wi vs (nI k) = true ∧ (∀ j x, j < 160 → vs[j]? = some x → gn j = x) ∧ R = x_grA n vs) ∨ (sv = 2 ∧ p = 0 ∧ sh = nI k ∧ sx = nI n ∧ k ≤ n ∧ R = x_biA n)
theorem c_mkN {post : Int32 → Int32 → Int32 → Int32 → Option Nat → (Nat → Int32) → Nat → Nat → Int32 → (Nat → Int32) → (Nat → Int32) → Nat → Nat → Nat → Nat → Nat → Nat → Int32 → Int32 → Int32 → Option Nat → (Nat → Int64) → (Nat → Int64) → (Nat → Int64) → Nat → Int32 → Int32 → Int32 → Int32 → Int32 → Int32 → Int32 → Int32 → Int32 → (Nat → Int32) → (Nat → px_MR) → Nat → Nat → (Nat → Nat) → (Nat → Nat) → (Nat → px_PR) → (Nat → px_SR) → Prop} {d1 d2 d3 d4 : Int32} {d5 : Option Nat} {ge : Nat → Int32} {sv : Nat} {sg sf s2 sd sh sx smn sr se : Int32} {gn : Nat → Int32} {vs : List Int32} (hc : c_nm sv sd sh sx smn sr gn vs p n k R) (ha0 : a0 < cm) (hp : x_pm p) (hn : n ≤ 12) (hO : c_PO np ns pp) (hSS : c_SS ns ss sp sn sm sK) (hMN : c_MN ns sa sp sn sm sK l mf mz mh ml gl gm gh) (hpok : px_pok cm np mm) (ho : o_Ok l_o o_r g_o g_t q) (hv : c_vac (mm a0))
    (hmc : (if 2 ^ n ≤ l then 0 else 3) + (if 2 ^ (n + 1) ≤ l_o then 0 else 1) + 2 + (c_bgc (o_ln l_o n) (mm a0) n + 1) ≤ mc) (hms : (if 2 ^ n ≤ l then 0 else 3 * 2 ^ n) + (if 2 ^ (n + 1) ≤ l_o then 0 else 2 ^ (n + 1)) + min k n * n + 4 + (c_bgs (o_ln l_o n) (mm a0) n + 3) ≤ ms)
    (h : ∀ ge' q_o' l_o' o' g' t' mm' q_l' q_m' q_h' l' mf' mz' mh' ml' gl' gm' gh' np' pa' sa' pp' ss', c_mnP mm a0 cm np ns pa sa pp ss sp sn sm sK l_o q l (x_raw p n k R) l_o' o' g' t' l' mf' mz' mh' ml' gl' gm' gh' mm' np' (ns + 1) pa' sa' pp' ss' → post d1 d2 d3 d4 d5 ge' q_o' l_o' o' g' t' q_l' q_m' q_h' l' l' l' mf' mz' mh' ml' gl' gm' gh' sv sg sf s2 sd sh sx smn sr se gn mm' np' (ns + 1) pa' sa' pp' ss') :
    w178_wp cm a0 mc ms post d1 d2 d3 d4 d5 ge q_o l_o o_r g_o g_t q_l q_m q_h l l l mf mz mh ml gl gm gh sv sg sf s2 sd sh sx smn sr se gn mm np ns pa sa pp ss := by
  have hsv : sv < 3 := by
    rcases hc with ⟨z, _⟩ | ⟨z, _⟩ | ⟨z, _⟩ <;> omega
  unfold w178_wp w178_L169
  refine ⟨by omega, c_v172 (by omega) ?_⟩
  rw [nI_clamp (show sv < 2 ^ 31 by omega)]
  refine ⟨b_in (by omega) (by omega), fun z => ?_, fun z z49 e49 => ?_, fun z1 z2 => ?_⟩
  · have z := (c_vs1 sv hsv).1.1 z
    rcases hc with ⟨c0, c1, c2, c3, c4, c5, c6, c7, c8⟩ | ⟨w, _⟩ | ⟨w, _⟩
    · subst c8
      subst z
      rw [c1, c2, c3]
      have hkn : k * n ≤ 12 * 12 := Nat.mul_le_mul c4 hn
      refine c_gs (R := x_mtR n vs) (P := fun v20 v25 v26 v27 v28 v29 v30 v31 v32 v33 v34 v35 v36 v37 v38 v39 v40 v41 v42 v43 v44 v45 sa24 v46 ss24 => post d1 d2 d3 d4 d5 ge v25 v26 v27 v28 v29 v31 v32 v33 v34 v35 v36 v37 v38 v39 v40 v41 v42 v43 0 sg sf s2 (nI p) (nI n) sx smn (nI k) se v20 v30 v44 (ns + 1) v45 sa24 v46 ss24) ha0 hp hn (by omega) (by omega) (by decide) (x_mtB c6) (x_mtZ n vs) (fun i hi e he => ?_) hO hSS hMN hpok ho hv hmc hms ?_
      · have hlt := b_il hi he
        unfold x_mtR
        rw [if_pos he]
        rw [c7 (i * n + e) (vs.getD (i * n + e) 0) (by omega) (by rw [List.getD_eq_getElem?_getD, List.getElem?_eq_getElem (by omega)]; rfl), Int32.ofInt_toInt]
      · intro q_o' l_o' o' g' t' mm' q_l' q_m' q_h' l' mf' mz' mh' ml' gl' gm' gh' np' pa' sa' pp' ss' hP
        rw [← c1, ← c2, ← c3]
        exact h _ _ _ _ _ _ _ _ _ _ _ _ _ _ _ _ _ _ _ _ _ _ _ hP
    · omega
    · omega
  · have z := (c_vs1 sv hsv).2.1 z
    rcases hc with ⟨w, _⟩ | ⟨c0, c1, c2, c3, c4, c5, c6, c7, c8⟩ | ⟨w, _⟩
    · omega
    · subst c8
      subst c1
      have e49' : z49 = nI n := by rw [e49, c3, c4]; exact b_dv2 n (by omega)
      rw [e49']
      subst c2
      have hkn : k * n ≤ 13 * 12 := Nat.mul_le_mul c5 hn
      subst c3
      refine c_layGraph (vs := vs) hn c5 c4 c7 c6 (fun g' hg' => ?_)
      exact c_gs (p := 0) (R := x_grA n vs) (P := fun v20 v25 v26 v27 v28 v29 v30 v31 v32 v33 v34 v35 v36 v37 v38 v39 v40 v41 v42 v43 v44 v45 sa24 v46 ss24 => post d1 d2 d3 d4 d5 v20 v25 v26 v27 v28 v29 v31 v32 v33 v34 v35 v36 v37 v38 v39 v40 v41 v42 v43 sv sg sf s2 sd (nI k) sx (nI vs.length) sr se gn v30 v44 (ns + 1) v45 sa24 v46 ss24) ha0 hp hn (by omega) (by omega) (by decide) (x_grB n vs) (x_grZ n vs) hg' hO hSS hMN hpok ho hv hmc hms (fun q_o' l_o' o' g' t' mm' q_l' q_m' q_h' l' mf' mz' mh' ml' gl' gm' gh' np' pa' sa' pp' ss' hP => h _ _ _ _ _ _ _ _ _ _ _ _ _ _ _ _ _ _ _ _ _ _ _ hP)
    · omega
  · rcases hc with ⟨w, _⟩ | ⟨w, _⟩ | ⟨c0, c1, c2, c3, c4, c5⟩
    · exact absurd ((c_vs1 sv hsv).1.2 w) z1
    · exact absurd ((c_vs1 sv hsv).2.2 w) z2
    · subst c5
      subst c1
      subst c2
      subst c3
      have hkn : k * n ≤ 12 * 12 := Nat.mul_le_mul (by omega) hn
      refine c_layUniform hn c4 (fun g' hg' => ?_)
      exact c_gs (p := 0) (R := x_biA n) (P := fun v20 v25 v26 v27 v28 v29 v30 v31 v32 v33 v34 v35 v36 v37 v38 v39 v40 v41 v42 v43 v44 v45 sa24 v46 ss24 => post d1 d2 d3 d4 d5 v20 v25 v26 v27 v28 v29 v31 v32 v33 v34 v35 v36 v37 v38 v39 v40 v41 v42 v43 sv sg sf s2 sd (nI k) (nI n) smn sr se gn v30 v44 (ns + 1) v45 sa24 v46 ss24) ha0 hp hn (by omega) (by omega) (by decide) (x_biB hn) (x_biZ n) hg' hO hSS hMN hpok ho hv hmc hms (fun q_o' l_o' o' g' t' mm' q_l' q_m' q_h' l' mf' mz' mh' ml' gl' gm' gh' np' pa' sa' pp' ss' hP => h _ _ _ _ _ _ _ _ _ _ _ _ _ _ _ _ _ _ _ _ _ _ _ hP)
end CMN
