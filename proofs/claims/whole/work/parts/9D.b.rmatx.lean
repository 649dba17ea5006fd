/-! PURE, the reference: makeMatrix -/
theorem t_vlb {b : Nat → Int32} {L : Nat} {cm : Bool} : ∀ (u i : Nat), ∀ x, x ∈ t_vl (t_it b L cm u i) → -999 ≤ x.toInt ∧ x.toInt ≤ 999
  | 0, _, x, h => by cases h
  | u + 1, i, x, h => by
    unfold t_it at h
    by_cases q : t_is b L 2 i = true
    · rw [if_pos q] at h
      rcases List.mem_cons.1 h with w | w
      · rw [w]; exact (t_vI (of_decide_eq_true q)).2
      · exact t_vlb u _ x w
    · rw [if_neg q] at h
      by_cases q2 : (cm && t_is b L 44 i) = true
      · rw [if_pos q2] at h; exact t_vlb u _ x h
      · rw [if_neg q2] at h; cases h
theorem t_gdb {vs : List Int32} (h : ∀ x, x ∈ vs → -999 ≤ x.toInt ∧ x.toInt ≤ 999) (k : Nat) : -999 ≤ (vs.getD k 0).toInt ∧ (vs.getD k 0).toInt ≤ 999 := by
  rw [List.getD_eq_getElem?_getD]
  cases q : vs[k]? with
  | none => exact ⟨by decide, by decide⟩
  | some x => exact h x (List.mem_of_getElem? q)
/-- the matrix of the numbers vs -/
def x_mxA (p n : Nat) (vs : List Int32) (i j : Nat) : Int := if j < n then x_md p (vs.getD (n * i + j) 0).toInt else 0
theorem x_mxZ {p n : Nat} {vs : List Int32} (i : Nat) : x_z0 n (x_mxA p n vs i) := fun j hj => by unfold x_mxA; rw [if_neg (by omega)]
theorem x_mxR {p n : Nat} {vs : List Int32} (hp : p ≠ 0) (i : Nat) : x_rg p (x_mxA p n vs i) := fun j => by
  unfold x_mxA x_md
  rw [if_neg hp]
  split
  · exact ⟨Int.emod_nonneg _ (by omega), Int.emod_lt_of_pos _ (by omega)⟩
  · exact ⟨Int.le_refl 0, by omega⟩
theorem x_mxL {n R : Nat} {vs : List Int32} (h : ∀ x, x ∈ vs → -999 ≤ x.toInt ∧ x.toInt ≤ 999) : x_lk n R (x_mxA 0 n vs) := Or.inl (fun i _ j _ => by
  have h2 : (999 : Nat) ≤ 2 ^ 39 := by decide
  unfold x_mxA
  split
  · rw [x_md0]
    have := t_gdb h (n * i + j)
    omega
  · exact Nat.zero_le _)
section RMX
variable {L i m p n R r0 : Nat} {g : Nat → Int} {b iv gs gp fr fc gm gth ge gf gr gk gq gw gR gS go gz : Nat → Int32} {nv : Nat → px_NV}
theorem r_matrix {post : (Nat → Int32) → (Nat → Int32) → (Nat → Int32) → (Nat → Int32) → (Nat → Int32) → (Nat → Int32) → (Nat → Int32) → (Nat → Int32) → (Nat → Int32) → (Nat → Int32) → (Nat → Int32) → (Nat → Int32) → (Nat → Int32) → (Nat → Int32) → (Nat → Int32) → (Nat → Int32) → (Nat → Int32) → (Nat → Int32) → (Nat → px_NV) → Prop} {hd : Int32} {items : List (Option Int32)} {ic ie : Nat} (hL : L ≤ 16384) (hi : i ≤ L) (hm : m < 26) (hT : r_T go gz) (hV : r_V nv) (h43 : iv 43 = 0) (ht : r_tat iv b L i) (hfl : t_fld b L i = true) (hk1 : t_k b L (t_e b L i) = 2) (ehd : hd = t_v b L (t_e b L i)) (eic : ic = t_e b L (t_e b L i)) (hk2 : t_k b L ic = 123) (eit : items = t_it b L true L (t_e b L ic)) (eie : ie = t_lp b L true L (t_e b L ic)) (hk3 : t_k b L ie = 125)
    (hgd : t_bad 0 (t_fdt b L i) hd 0 [] (nI (t_rows hd (t_fo hd items 0 0 true)).1) (if (t_rows hd (t_fo hd items 0 0 true)).2 = true then 1 else 0) 0 = false → x_pm p ∧ t_fdt b L i = nI p ∧ hd = nI n ∧ (t_rows hd (t_fo hd items 0 0 true)).1 = R ∧ x_gh p n r0 g ∧ x_of2 p R (x_mxA p n (t_vl items)) g)
    (hB : t_bad 0 (t_fdt b L i) hd 0 [] (nI (t_rows hd (t_fo hd items 0 0 true)).1) (if (t_rows hd (t_fo hd items 0 0 true)).2 = true then 1 else 0) 0 = true → ∀ iv' gs' nv', r_tat iv' b L (t_e b L ie) → r_Eq iv iv' → iv' 43 = 2 → r_V nv' → post iv' gs' gp fr fc gm gth ge gf gr gk gq gw gR gS go gz b nv')
    (hG : t_bad 0 (t_fdt b L i) hd 0 [] (nI (t_rows hd (t_fo hd items 0 0 true)).1) (if (t_rows hd (t_fo hd items 0 0 true)).2 = true then 1 else 0) 0 = false → ∀ iv' gs' gp' fr' fc' gm' gk' gq' gw' gR' gS' nv', r_tat iv' b L (t_e b L ie) → r_Eq iv iv' → iv' 43 = 0 → r_V nv' → r_G m p n r0 g (upd gth m 1) (upd ge m (nI n)) (upd gf m (nI p)) (upd gr m (nI r0)) gk' gq' gR' gS' → (∀ e, e < 12 → gw' (12 * m + e) = 0) → r_kf m gk gq gw gR gS gk' gq' gw' gR' gS' → post iv' gs' gp' fr' fc' gm' (upd gth m 1) (upd ge m (nI n)) (upd gf m (nI p)) (upd gr m (nI r0)) gk' gq' gw' gR' gS' go gz b nv') : w98_wp post (nI m) iv gs gp fr fc gm gth ge gf gr gk gq gw gR gS go gz b nv := by
  have hib := (t_el (b := b) hi).2.1
  have hic : ic ≤ L := by rw [eic]; exact (t_el hib).2.1
  have hid := (t_el (b := b) hic).2.1
  have hie : ie ≤ L := by rw [eie]; exact t_lpl L _ hid
  have hvb : ∀ x, x ∈ t_vl items → -999 ≤ x.toInt ∧ x.toInt ≤ 999 := by rw [eit]; exact t_vlb L _
  obtain ⟨av, hav, eav⟩ := t_v3 hk1
  rw [← ehd] at eav
  -- the end, when the rows are told
  have fin : ∀ (gd an : Bool) (cr dn : Nat) (e : Bool) (iv1 gs1 : Nat → Int32) (nv1 : Nat → px_NV) (x2 x3 : Int32), cr ≤ L → dn ≤ L → t_fo hd items 0 0 true = (cr, dn, e) → gd = (!decide (t_fdt b L i = -1) && (!decide (hd < 0) && (!decide (12 < hd) && e))) → (an = true ↔ ¬ items = []) → r_tat iv1 b L ie → r_Eq iv iv1 → iv1 43 = 0 → r_V nv1 → (gd = true → iv1 12 = t_fdt b L i ∧ iv1 11 = hd) → (gd = true → dn < 12 → nI cr = hd → ∀ p n, x_pm p → t_fdt b L i = nI p → hd = nI n → n ≤ 12 → ∀ i' j', i' ≤ dn → j' < n → r_e p gs1 nv1 (12 * i' + j') (x_mxA p n (t_vl items) i' j')) → ∀ k, w98_L118 post (k + 1) (nI m) x2 x3 hd (if gd = true then 1 else 0) (if an = true then 1 else 0) (nI cr) (nI dn) iv1 gs1 gp fr fc gm gth ge gf gr gk gq gw gR gS go gz b nv1 := fun gd an cr dn e iv1 gs1 nv1 x2 x3 hcr hdn hfo hgde han ht1 hq1 h431 hV1 hb12 hdat k => by
    have hany : an = true ↔ (0 < dn ∨ 0 < cr) := by
      rw [han]
      constructor
      · intro q
        refine Classical.byContradiction (fun w => ?_)
        have hz : ∀ (l : List (Option Int32)) (c d : Nat) (f : Bool), (0 < c ∨ 0 < d ∨ ¬ l = []) → 0 < (t_fo hd l c d f).1 ∨ 0 < (t_fo hd l c d f).2.1 := by
          intro l
          induction l with
          | nil => intro c d f h; exact h.elim Or.inl (fun h => h.elim Or.inr (fun h => absurd rfl h))
          | cons a l ih =>
            intro c d f _
            cases a with
            | some x => exact ih (c + 1) d f (Or.inl (by omega))
            | none => exact ih 0 (d + 1) _ (Or.inr (Or.inl (by omega)))
        have := hz items 0 0 true (Or.inr (Or.inr q))
        rw [hfo] at this
        exact w (this.elim (fun y => Or.inr y) (fun y => Or.inl y))
      · intro q w
        rw [w] at hfo
        have h1 : (0, 0, true) = (cr, dn, e) := hfo
        injection h1 with a1 a2
        injection a2 with a2 a3
        omega
    have hrw : t_rows hd (cr, dn, e) = if 0 < dn ∨ 0 < cr then (dn + 1, e && decide (nI cr = hd)) else (dn, e) := rfl
    -- good at the end
    have fg : ∀ (y : Bool), y = (gd && ((!an || decide (nI cr = hd)) && decide (dn < 12))) → w98_L235 post (nI m) x2 x3 hd (if gd = true then 1 else 0) (if an = true then 1 else 0) (nI cr) (nI dn) (if y = true then 1 else 0) iv1 gs1 gp fr fc gm gth ge gf gr gk gq gw gR gS go gz b nv1 := fun y ey => by
      have hbad : t_bad 0 (t_fdt b L i) hd 0 [] (nI (t_rows hd (t_fo hd items 0 0 true)).1) (if (t_rows hd (t_fo hd items 0 0 true)).2 = true then 1 else 0) 0 = !y := by
        rw [ey, hgde, hfo, hrw]
        unfold t_bad
        rw [if_pos rfl]
        have hev : ∀ q : Bool, decide ((if q = true then (1 : Int32) else 0) = 0) = !q := by decide
        by_cases q : 0 < dn ∨ 0 < cr
        · rw [if_pos q, hany.2 q, hev]
          have h12 : decide ((12 : Int32) < nI (dn + 1)) = !decide (dn < 12) := by
            by_cases w : dn < 12
            · rw [decide_eq_true w, decide_eq_false]
              · rfl
              · intro z
                exact absurd z (by rw [show (12 : Int32) = nI 12 from rfl]; exact fun z => absurd (nI_le (show dn + 1 ≤ 12 by omega) (by omega)) (Int32.not_le.2 z))
            · rw [decide_eq_false w, decide_eq_true]
              · rfl
              · exact nI_lt (show 12 < dn + 1 by omega) (by omega)
          rw [h12]
          generalize decide (t_fdt b L i = -1) = a1
          generalize decide (hd < 0) = a2
          generalize decide (12 < hd) = a3
          generalize decide (nI cr = hd) = a4
          generalize decide (dn < 12) = a5
          cases a1 <;> cases a2 <;> cases a3 <;> cases a4 <;> cases a5 <;> cases e <;> rfl
        · have han0 : an = false := Bool.eq_false_iff.2 (fun w => q (hany.1 w))
          have hdn0 : dn = 0 := by omega
          rw [if_neg q, han0, hdn0, hev]
          have h12 : decide ((12 : Int32) < nI 0) = false := by decide
          rw [h12]
          generalize decide (t_fdt b L i = -1) = a1
          generalize decide (hd < 0) = a2
          generalize decide (12 < hd) = a3
          cases a1 <;> cases a2 <;> cases a3 <;> cases e <;> rfl
      refine r_nxt hL hie ht1 (fun iv2 ht2 hq2 => ?_)
      have h432 : iv2 43 = 0 := by rw [hq2 43 (by decide) (by decide) (by decide)]; exact h431
      have hq2' : r_Eq iv1 iv2 := fun q _ _ _ a4 a5 a6 _ => hq2 q a4 a5 a6
      refine r_may h432 (by decide) (fun w => ?_) (fun w => ?_)
      · have hy : y = true := Classical.byContradiction (fun q => w (if_neg q))
        rw [hy] at hbad
        obtain ⟨c1, c2, c3, c4, c5, c6⟩ := hgd hbad
        have hgdT : gd = true := by
          rw [hy] at ey
          cases hgd' : gd
          · rw [hgd'] at ey; exact Bool.noConfusion ey
          · rfl
        have hn := c5.1
        obtain ⟨d1, d2⟩ := hb12 hgdT
        have hrest : ((!an || decide (nI cr = hd)) && decide (dn < 12)) = true := by
          rw [hy, hgdT] at ey
          exact ey.symm
        rw [Bool.and_eq_true, Bool.or_eq_true, Bool.not_eq_true'] at hrest
        have hdn12 : dn < 12 := of_decide_eq_true hrest.2
        rw [hfo, hrw] at c4
        have bec : ∀ y0 : Int32, y0 = nI R → (R ≤ 12) → r_X p n R gs1 nv1 (x_mxA p n (t_vl items)) → w98_L265 post (nI m) x2 x3 hd (if y = true then 1 else 0) (if an = true then 1 else 0) (nI cr) (nI dn) y0 iv2 gs1 gp fr fc gm gth ge gf gr gk gq gw gR gS go gz b nv1 := fun y0 ey0 hR hX => by
          unfold w98_L265 w98_L273
          rw [ey0]
          refine r_becG (A := x_mxA p n (t_vl items)) (R := R) (n := n) c1 hm (by rw [va_up_ne _ _ (by decide), hq2 12 (by decide) (by decide) (by decide), d1]; exact c2) (by rw [va_up_ne _ _ (by decide), hq2 11 (by decide) (by decide) (by decide), d2]; exact c3) (va_up_self _ _ _) (by omega) hT hX (fun i _ => x_mxZ i) (fun p0 => by subst p0; exact x_mxL hvb) (fun p0 i _ => x_mxR p0 i) c5 c6 (fun gs' gp' fr' fc' gm' gk' gq' gw' gR' gS' nv' a1 a2 a3 a4 => hG hbad _ gs' gp' fr' fc' gm' gk' gq' gw' gR' gS' nv' ?_ ?_ ?_ a1 a2 a3 a4)
          · obtain ⟨e1, e2, e3, e4⟩ := ht2
            exact ⟨by rw [va_up_ne _ _ (by decide), va_up_ne _ _ (by decide)]; exact e1, by rw [va_up_ne _ _ (by decide), va_up_ne _ _ (by decide)]; exact e2, by rw [va_up_ne _ _ (by decide), va_up_ne _ _ (by decide)]; exact e3, by rw [va_up_ne _ _ (by decide), va_up_ne _ _ (by decide)]; exact e4⟩
          · exact r_EqT (r_EqT hq1 hq2') (fun q a1 _ _ _ _ _ _ => by rw [va_up_ne _ _ a1, va_up_ne _ _ a1])
          · rw [va_up_ne _ _ (by decide), va_up_ne _ _ (by decide)]; exact h432
        refine ⟨fun w0 => t_10 w0, fun _ => ⟨fun w' => ?_, fun w' => ?_⟩⟩
        · have han0 : an = false := Bool.eq_false_iff.2 (fun q => by rw [if_pos q] at w'; exact t_10 w')
          have hz : ¬ (0 < dn ∨ 0 < cr) := fun q => by rw [hany.2 q] at han0; exact Bool.noConfusion han0
          rw [if_neg hz] at c4
          have hR0 : R = 0 := by
            have : dn = R := c4
            omega
          exact bec 0 (by rw [hR0]; rfl) (by omega) ⟨hV1, fun i' hi' => absurd hi' (by omega)⟩
        · have han1 : an = true := Classical.byContradiction (fun q => w' (if_neg q))
          have hz := hany.1 han1
          rw [if_pos hz] at c4
          have hR1 : dn + 1 = R := c4
          have hcr2 : nI cr = hd := by
            rcases hrest.1 with q | q
            · rw [han1] at q; exact Bool.noConfusion q
            · exact of_decide_eq_true q
          refine bec _ (by rw [nI_1, hR1]) (by omega) ⟨hV1, fun i' hi' j' hj' => ?_⟩
          have := hdat hgdT hdn12 hcr2 p n c1 c2 c3 hn i' j' (by omega) hj'
          exact this
      · have hy : y = false := Bool.eq_false_iff.2 (fun q => by rw [if_pos q] at w; exact t_10 w)
        rw [hy] at hbad
        unfold w98_L273
        refine ⟨fun _ => hB hbad _ gs1 nv1 ?_ ?_ (va_up_self _ _ _) hV1, fun w0 => absurd rfl w0⟩
        · obtain ⟨e1, e2, e3, e4⟩ := ht2
          exact ⟨by rw [va_up_ne _ _ (by decide)]; exact e1, by rw [va_up_ne _ _ (by decide)]; exact e2, by rw [va_up_ne _ _ (by decide)]; exact e3, by rw [va_up_ne _ _ (by decide)]; exact e4⟩
        · exact r_EqT (r_EqT hq1 hq2') (fun q _ _ _ _ _ _ a7 => va_up_ne _ _ a7)
    have f0 : ∀ y : Bool, y = false → y = (gd && ((!an || decide (nI cr = hd)) && decide (dn < 12))) → w98_L234 post (nI m) x2 x3 hd (if gd = true then 1 else 0) (if an = true then 1 else 0) (nI cr) (nI dn) iv1 gs1 gp fr fc gm gth ge gf gr gk gq gw gR gS go gz b nv1 := fun y hy ey => by
      have := fg y ey
      rw [hy] at this
      exact this
    have f223 : gd = true → (an = false ∨ nI cr = hd) → w98_L223 post (nI m) x2 x3 hd (if gd = true then 1 else 0) (if an = true then 1 else 0) (nI cr) (nI dn) iv1 gs1 gp fr fc gm gth ge gf gr gk gq gw gR gS go gz b nv1 := fun hgdT hor => by
      have hor' : (!an || decide (nI cr = hd)) = true := by
        rcases hor with q | q
        · rw [q]; rfl
        · rw [decide_eq_true q, Bool.or_true]
      refine ⟨fun w => f0 false rfl ?_, fun w => ?_⟩
      · have : ¬ dn < 12 := fun q => absurd w (show ¬ nI 12 ≤ nI dn from nI_ge (by omega) (by omega))
        rw [decide_eq_false this, Bool.and_false, Bool.and_false]
      · have : dn < 12 := Classical.byContradiction (fun q => w (show nI 12 ≤ nI dn from nI_le (by omega) (by omega)))
        exact fg true (by rw [hgdT, hor', decide_eq_true this]; rfl)
    unfold w98_L118
    rw [ht1.2.1, hk3]
    refine ⟨fun _ => ⟨fun w => f0 false rfl ?_, fun w => ⟨fun w' => ?_, fun w' => ⟨fun w'' => f0 false rfl ?_, fun w'' => ?_⟩⟩⟩, fun w => absurd rfl w⟩
    · have : gd = false := Bool.eq_false_iff.2 (fun q => by rw [if_pos q] at w; exact t_10 w)
      rw [this]; rfl
    · have h1 : gd = true := Classical.byContradiction (fun q => w (if_neg q))
      have h2 : an = false := Bool.eq_false_iff.2 (fun q => by rw [if_pos q] at w'; exact t_10 w')
      exact f223 h1 (Or.inl h2)
    · have h2 : an = true := Classical.byContradiction (fun q => w' (if_neg q))
      rw [h2, decide_eq_false w'']
      show false = (gd && (false && decide (dn < 12)))
      rw [Bool.false_and, Bool.and_false]
    · have h1 : gd = true := Classical.byContradiction (fun q => w (if_neg q))
      exact f223 h1 (Or.inr w'')
  -- what is good at first
  have hpn : ∃ p1 n1, (¬ t_fdt b L i = -1) ∧ ¬ hd < 0 ∧ ¬ 12 < hd → x_pm p1 ∧ t_fdt b L i = nI p1 ∧ hd = nI n1 ∧ n1 ≤ 12 := by
    by_cases q : (¬ t_fdt b L i = -1) ∧ ¬ hd < 0 ∧ ¬ 12 < hd
    · obtain ⟨n1, hn1, en1⟩ := nI_of (x := hd) q.2.1
      have hn12 : n1 ≤ 12 := Classical.byContradiction (fun w => q.2.2 (by rw [en1]; exact show nI 12 < nI n1 from nI_lt (by omega) hn1))
      by_cases q1 : t_k b L i = 1
      · exact ⟨0, n1, fun _ => ⟨Or.inl rfl, by unfold t_fdt; rw [if_pos q1]; rfl, en1, hn12⟩⟩
      · have hfd : t_fdt b L i = if t_prm (t_v b L i) = true then t_v b L i else -1 := by unfold t_fdt; rw [if_neg q1]
        by_cases q2 : t_prm (t_v b L i) = true
        · obtain ⟨p1, e1, e2, e3, e4⟩ := x_hex q2
          exact ⟨p1, n1, fun _ => ⟨Or.inr ⟨e2, e3, e4⟩, by rw [hfd, if_pos q2, e1], en1, hn12⟩⟩
        · exact absurd (by rw [hfd, if_neg q2]) q.1
    · exact ⟨0, 0, fun w => absurd w q⟩
  obtain ⟨p1, n1, hpn⟩ := hpn
  have loop : ∀ (an : Bool), (an = true ↔ ¬ items = []) → ∀ (x2 x3 : Int32) (u j : Nat) (gd e : Bool) (cr dn c : Nat) (pre : List Int32) (iv1 gs1 : Nat → Int32) (nv1 : Nat → px_NV), j ≤ L → ie = t_lp b L true u j → t_vl items = pre ++ t_vl (t_it b L true u j) → pre.length = c → t_fo hd items 0 0 true = t_fo hd (t_it b L true u j) cr dn e → gd = (!decide (t_fdt b L i = -1) && (!decide (hd < 0) && (!decide (12 < hd) && e))) → cr + dn ≤ j → r_tat iv1 b L j → r_Eq iv iv1 → iv1 43 = 0 → r_V nv1 → (gd = true → iv1 12 = t_fdt b L i ∧ iv1 11 = hd) → (gd = true → c = n1 * dn + cr ∧ (dn < 12 → ∀ i' j', (i' < dn ∧ j' < n1) ∨ (i' = dn ∧ j' < cr ∧ j' < n1) → r_e p1 gs1 nv1 (12 * i' + j') (x_mxA p1 n1 (t_vl items) i' j'))) → w98_L118 post (u + 1) (nI m) x2 x3 hd (if gd = true then 1 else 0) (if an = true then 1 else 0) (nI cr) (nI dn) iv1 gs1 gp fr fc gm gth ge gf gr gk gq gw gR gS go gz b nv1 := by
    intro an han x2 x3 u
    have gdT : ∀ {gd e : Bool}, gd = (!decide (t_fdt b L i = -1) && (!decide (hd < 0) && (!decide (12 < hd) && e))) → gd = true → (x_pm p1 ∧ t_fdt b L i = nI p1 ∧ hd = nI n1 ∧ n1 ≤ 12) ∧ e = true := fun {gd e} h1 h2 => by
      rw [h2] at h1
      have h1 := h1.symm
      rw [Bool.and_eq_true, Bool.and_eq_true, Bool.and_eq_true, Bool.not_eq_true', Bool.not_eq_true', Bool.not_eq_true'] at h1
      exact ⟨hpn ⟨of_decide_eq_false h1.1, of_decide_eq_false h1.2.1, of_decide_eq_false h1.2.2.1⟩, h1.2.2.2⟩
    have done : ∀ (j : Nat) (gd e : Bool) (cr dn c k : Nat) (iv1 gs1 : Nat → Int32) (nv1 : Nat → px_NV), j ≤ L → ie = j → t_fo hd items 0 0 true = (cr, dn, e) → gd = (!decide (t_fdt b L i = -1) && (!decide (hd < 0) && (!decide (12 < hd) && e))) → cr + dn ≤ j → r_tat iv1 b L j → r_Eq iv iv1 → iv1 43 = 0 → r_V nv1 → (gd = true → iv1 12 = t_fdt b L i ∧ iv1 11 = hd) → (gd = true → c = n1 * dn + cr ∧ (dn < 12 → ∀ i' j', (i' < dn ∧ j' < n1) ∨ (i' = dn ∧ j' < cr ∧ j' < n1) → r_e p1 gs1 nv1 (12 * i' + j') (x_mxA p1 n1 (t_vl items) i' j'))) → w98_L118 post (k + 1) (nI m) x2 x3 hd (if gd = true then 1 else 0) (if an = true then 1 else 0) (nI cr) (nI dn) iv1 gs1 gp fr fc gm gth ge gf gr gk gq gw gR gS go gz b nv1 := fun j gd e cr dn c k iv1 gs1 nv1 a1 a2 a3 a4 a5 a6 a7 a8 a9 a10 a11 => by
      subst a2
      refine fin gd an cr dn e iv1 gs1 nv1 x2 x3 (by omega) (by omega) a3 a4 han a6 a7 a8 a9 a10 (fun hg hdn hcr p n hp ep en hn12 i' j' hi' hj' => ?_) k
      obtain ⟨⟨c1, c2, c3, c4⟩, c5⟩ := gdT a4 hg
      have hp1 : p1 < 252 := by
        rcases c1 with q | q
        · omega
        · exact q.2.1
      have hp2 : p < 252 := by
        rcases hp with q | q
        · omega
        · exact q.2.1
      have e1 : p = p1 := (nI_eq (by omega) (by omega)).1 (by rw [← ep, c2])
      subst e1
      have hcn : cr = n1 := (nI_eq (by omega) (by omega)).1 (by rw [hcr, c3])
      have hn31 : n = n1 := (nI_eq (by omega) (by omega)).1 (by rw [← en, c3])
      subst hn31
      refine (a11 hg).2 hdn i' j' ?_
      by_cases q : i' < dn
      · exact Or.inl ⟨q, hj'⟩
      · exact Or.inr ⟨by omega, by omega, hj'⟩
    induction u with
    | zero =>
      intro j gd e cr dn c pre iv1 gs1 nv1 a1 a2 a3 a4 a5 a6 a7 a8 a9 a10 a11 a12 a13
      exact done j gd e cr dn c 0 iv1 gs1 nv1 a1 a2 a5 a6 a7 a8 a9 a10 a11 a12 a13
    | succ u ih =>
      intro j gd e cr dn c pre iv1 gs1 nv1 a1 a2 a3 a4 a5 a6 a7 a8 a9 a10 a11 a12 a13
      have hlp : t_lp b L true (u + 1) j = if (t_is b L 2 j || (true && t_is b L 44 j)) = true then t_lp b L true u (t_e b L j) else j := rfl
      have hit : t_it b L true (u + 1) j = if t_is b L 2 j = true then some (t_v b L j) :: t_it b L true u (t_e b L j) else if (true && t_is b L 44 j) = true then none :: t_it b L true u (t_e b L j) else [] := rfl
      by_cases q : t_is b L 2 j = true
      · have hk : t_k b L j = 2 := of_decide_eq_true q
        have hadv := t_isj a1 (by decide) q
        rw [hlp, if_pos (by rw [q]; rfl)] at a2
        rw [hit, if_pos q] at a3 a5
        have a3' : t_vl items = (pre ++ [t_v b L j]) ++ t_vl (t_it b L true u (t_e b L j)) := by
          rw [a3, List.append_assoc]; rfl
        have a5' : t_fo hd items 0 0 true = t_fo hd (t_it b L true u (t_e b L j)) (cr + 1) dn e := a5
        have hval : (t_vl items).getD c 0 = t_v b L j := by
          rw [a3, List.getD_eq_getElem?_getD, List.getElem?_append_right (by omega), a4, Nat.sub_self]; rfl
        have go : ∀ (iv2 gs2 : Nat → Int32) (nv2 : Nat → px_NV), r_tat iv2 b L j → r_Eq iv iv2 → iv2 43 = 0 → r_V nv2 → (gd = true → iv2 12 = t_fdt b L i ∧ iv2 11 = hd) → (gd = true → dn < 12 → ∀ i' j', (i' < dn ∧ j' < n1) ∨ (i' = dn ∧ j' < cr + 1 ∧ j' < n1) → r_e p1 gs2 nv2 (12 * i' + j') (x_mxA p1 n1 (t_vl items) i' j')) → w98_L196 (w98_L118 post (u + 1)) post (nI m) x2 x3 hd (if gd = true then 1 else 0) (if an = true then 1 else 0) (nI cr) (nI dn) iv2 gs2 gp fr fc gm gth ge gf gr gk gq gw gR gS go gz b nv2 := fun iv2 gs2 nv2 t1 t2 t3 t4 t5 t6 => by
          unfold w98_L196 w98_L199
          intro z28 e28
          rw [e28, nI_1]
          refine r_nxt hL a1 t1 (fun iv3 s1 s2 => ?_)
          refine ih (t_e b L j) gd e (cr + 1) dn (c + 1) (pre ++ [t_v b L j]) iv3 gs2 nv2 hadv.2 a2 a3' (by rw [List.length_append, a4]; rfl) a5' a6 (by omega) s1 (r_EqT t2 (fun q _ _ _ b4 b5 b6 _ => s2 q b4 b5 b6)) (by rw [s2 43 (by decide) (by decide) (by decide)]; exact t3) t4 (fun hg => by rw [s2 12 (by decide) (by decide) (by decide), s2 11 (by decide) (by decide) (by decide)]; exact t5 hg) (fun hg => ⟨by have := (a13 hg).1; omega, t6 hg⟩)
        unfold w98_L118
        rw [a8.2.1, hk]
        refine ⟨fun w => absurd w (by decide), fun _ => ⟨fun _ => ⟨fun w => ?_, fun w => ⟨fun w' => ?_, fun w' => ⟨fun w'' => ?_, fun w'' => ?_⟩⟩⟩, fun w => absurd w (by decide)⟩⟩
        · have hg : gd = false := Bool.eq_false_iff.2 (fun y => by rw [if_pos y] at w; exact t_10 w)
          exact go iv1 gs1 nv1 a8 a9 a10 a11 a12 (fun y => by rw [hg] at y; exact Bool.noConfusion y)
        · exact go iv1 gs1 nv1 a8 a9 a10 a11 a12 (fun _ y => absurd w' (show ¬ nI 12 ≤ nI dn from nI_ge (by omega) (by omega)))
        · refine go iv1 gs1 nv1 a8 a9 a10 a11 a12 (fun hg y i' j' z => (a13 hg).2 y i' j' ?_)
          obtain ⟨⟨c1, c2, c3, c4⟩, c5⟩ := gdT a6 hg
          have hcr : n1 ≤ cr := Classical.byContradiction (fun y => absurd w'' (by rw [c3]; exact nI_ge (by omega) (by omega)))
          omega
        · have hg : gd = true := Classical.byContradiction (fun y => w (if_neg y))
          obtain ⟨⟨c1, c2, c3, c4⟩, c5⟩ := gdT a6 hg
          have hcr : cr < n1 := Classical.byContradiction (fun y => w'' (by rw [c3]; exact nI_le (by omega) (by omega)))
          have hdn : dn < 12 := Classical.byContradiction (fun y => w' (show nI 12 ≤ nI dn from nI_le (by omega) (by omega)))
          have hp0 : p1 = 0 ∨ (1 < p1 ∧ p1 < 256) := by
            rcases c1 with y | y
            · exact Or.inl y
            · exact Or.inr ⟨y.1, by have := y.2.1; omega⟩
          obtain ⟨v1, v2, v3⟩ := t_vI hk
          refine r_value hL a1 hk a8 ?_
          rw [v1]
          refine r_put (v := (t_v b L j).toInt) hp0 (by rw [(a12 hg).1]; exact c2) (by omega) (by omega) (by omega) (by omega) (fun gs2 nv2 b1 b2 b3 b4 => ?_)
          refine go iv1 gs2 nv2 a8 a9 a10 (fun d hd' => ?_) a12 (fun _ y i' j' z => ?_)
          · by_cases y : d = 12 * dn + cr
            · rw [y] at hd' ⊢; exact b4 (a11 _ hd')
            · rw [b2 d y]; exact a11 d hd'
          · by_cases y2 : i' = dn ∧ j' = cr
            · have e3 : x_mxA p1 n1 (t_vl items) i' j' = if p1 = 0 then (t_v b L j).toInt else (t_v b L j).toInt % (p1 : Int) := by
                unfold x_mxA
                rw [if_pos (by omega), y2.1, y2.2, ← (a13 hg).1, hval]; rfl
              rw [e3, y2.1, y2.2]; exact b3
            · exact r_ek (d' := 0) ((a13 hg).2 y i' j' (by omega)) (b1 _ (by omega)) (b2 _ (by omega))
      · by_cases q2 : t_is b L 44 j = true
        · have hk : t_k b L j = 44 := of_decide_eq_true q2
          have hadv := t_isj a1 (by decide) q2
          rw [hlp, if_pos (by rw [q2, Bool.true_and, Bool.or_true])] at a2
          rw [hit, if_neg q, if_pos (by rw [q2]; rfl)] at a3 a5
          have a3' : t_vl items = pre ++ t_vl (t_it b L true u (t_e b L j)) := a3
          have a5' : t_fo hd items 0 0 true = t_fo hd (t_it b L true u (t_e b L j)) 0 (dn + 1) (e && decide (nI cr = hd)) := a5
          have go : ∀ (y : Bool), y = (gd && decide (nI cr = hd)) → w98_L153 (w98_L118 post (u + 1)) post (nI m) x2 x3 hd (if gd = true then 1 else 0) (if an = true then 1 else 0) (nI cr) (nI dn) (if y = true then 1 else 0) iv1 gs1 gp fr fc gm gth ge gf gr gk gq gw gR gS go gz b nv1 := fun y ey => by
            unfold w98_L153 w98_L199
            intro z29 e29
            rw [e29, nI_1]
            refine r_nxt hL a1 a8 (fun iv3 s1 s2 => ?_)
            have ey2 : y = (!decide (t_fdt b L i = -1) && (!decide (hd < 0) && (!decide (12 < hd) && (e && decide (nI cr = hd))))) := by
              rw [ey, a6, Bool.and_assoc, Bool.and_assoc, Bool.and_assoc]
            have hgy : y = true → gd = true ∧ nI cr = hd := fun z => by
              rw [z] at ey
              have ey := ey.symm
              rw [Bool.and_eq_true] at ey
              exact ⟨ey.1, of_decide_eq_true ey.2⟩
            refine ih (t_e b L j) y (e && decide (nI cr = hd)) 0 (dn + 1) c pre iv3 gs1 nv1 hadv.2 a2 a3' a4 a5' ey2 (by omega) s1 (r_EqT a9 (fun q _ _ _ b4 b5 b6 _ => s2 q b4 b5 b6)) (by rw [s2 43 (by decide) (by decide) (by decide)]; exact a10) a11 (fun z => by rw [s2 12 (by decide) (by decide) (by decide), s2 11 (by decide) (by decide) (by decide)]; exact a12 (hgy z).1) (fun z => ?_)
            obtain ⟨hg, hcr⟩ := hgy z
            obtain ⟨⟨c1, c2, c3, c4⟩, c5⟩ := gdT a6 hg
            have hcn : cr = n1 := (nI_eq (by omega) (by omega)).1 (by rw [hcr, c3])
            obtain ⟨d1, d2⟩ := a13 hg
            refine ⟨by rw [d1, hcn, Nat.mul_add, Nat.mul_one, Nat.add_zero], fun y12 i' j' z2 => d2 (by omega) i' j' ?_⟩
            omega
          unfold w98_L118 w98_L152
          rw [a8.2.1, hk]
          refine ⟨fun w => absurd w (by decide), fun _ => ⟨fun w => absurd rfl w, fun _ => ⟨fun w => ?_, fun w => ⟨fun w' => ?_, fun w' => ?_⟩⟩⟩⟩
          · have hg : gd = false := Bool.eq_false_iff.2 (fun y => by rw [if_pos y] at w; exact t_10 w)
            exact go false (by rw [hg]; rfl)
          · exact go false (by rw [decide_eq_false w', Bool.and_false])
          · have hg : gd = true := Classical.byContradiction (fun y => w (if_neg y))
            exact go true (by rw [hg, decide_eq_true w']; rfl)
        · have q2f := Bool.eq_false_iff.2 q2
          have qf := Bool.eq_false_iff.2 q
          rw [hlp, if_neg (by rw [qf, q2f]; exact Bool.noConfusion)] at a2
          rw [hit, if_neg q, if_neg (by rw [q2f]; exact Bool.noConfusion)] at a5
          exact done j gd e cr dn c (u + 1) iv1 gs1 nv1 a1 a2 a5 a6 a7 a8 a9 a10 a11 a12 a13
  -- the beginning
  have start : ∀ (y0 : Bool) (x2 x3 : Int32) (iv1 : Nat → Int32), y0 = (!decide (t_fdt b L i = -1) && (!decide (hd < 0) && !decide (12 < hd))) → (y0 = true → x3 = t_fdt b L i) → r_tat iv1 b L ic → r_Eq iv iv1 → iv1 43 = 0 → w98_L65 post (nI m) x2 x3 hd (if y0 = true then 1 else 0) iv1 gs gp fr fc gm gth ge gf gr gk gq gw gR gS go gz b nv := fun y0 x2 x3 iv1 ey0 ex3 ht1 hq1 h431 => by
    have beg : ∀ (pp nn : Int32), (y0 = true → pp = t_fdt b L i ∧ nn = hd) → w98_L89 post (nI m) x2 x3 hd (if y0 = true then 1 else 0) nn pp iv1 gs gp fr fc gm gth ge gf gr gk gq gw gR gS go gz b nv := fun pp nn hpp => by
      unfold w98_L89
      show mnx_wp _ (va_up (va_up (va_up iv1 12 pp) 11 nn) 10 0) b
      have hup : ∀ q, q ≠ 10 → q ≠ 11 → q ≠ 12 → va_up (va_up (va_up iv1 12 pp) 11 nn) 10 0 q = iv1 q := fun q q1 q2 q3 => by rw [va_up_ne _ _ q1, va_up_ne _ _ q2, va_up_ne _ _ q3]
      have u12 : va_up (va_up (va_up iv1 12 pp) 11 nn) 10 0 12 = pp := by rw [va_up_ne _ _ (by decide), va_up_ne _ _ (by decide), va_up_self]
      have u11 : va_up (va_up (va_up iv1 12 pp) 11 nn) 10 0 11 = nn := by rw [va_up_ne _ _ (by decide), va_up_self]
      generalize va_up (va_up (va_up iv1 12 pp) 11 nn) 10 0 = iv2 at *
      obtain ⟨e1, e2, e3, e4⟩ := ht1
      refine r_nxt (i := ic) hL hic ⟨by rw [hup 37 (by decide) (by decide) (by decide)]; exact e1, by rw [hup 38 (by decide) (by decide) (by decide)]; exact e2, by rw [hup 39 (by decide) (by decide) (by decide)]; exact e3, by rw [hup 40 (by decide) (by decide) (by decide)]; exact e4⟩ (fun iv3 s1 s2 => ?_)
      have run : ∀ an : Bool, (an = true ↔ ¬ items = []) → w98_L110 post (nI m) x2 x3 hd (if y0 = true then 1 else 0) (if an = true then 1 else 0) iv3 gs gp fr fc gm gth ge gf gr gk gq gw gR gS go gz b nv := fun an han => by
        unfold w98_L110
        refine ⟨L + 1, loop an han x2 x3 L (t_e b L ic) y0 true 0 0 0 [] iv3 gs nv hid eie (by rw [eit]; rfl) rfl (by rw [eit]) (by rw [ey0, Bool.and_true]) (Nat.zero_le _) s1 (r_EqT hq1 (fun q b1 b2 b3 b4 b5 b6 _ => by rw [s2 q b4 b5 b6]; exact hup q b1 b2 b3)) (by rw [s2 43 (by decide) (by decide) (by decide), hup 43 (by decide) (by decide) (by decide)]; exact h431) hV (fun z => ?_) (fun z => ⟨by rw [Nat.mul_zero], fun _ i' j' z2 => by omega⟩)⟩
        rw [s2 12 (by decide) (by decide) (by decide), s2 11 (by decide) (by decide) (by decide), u12, u11]
        exact hpp z
      rw [s1.2.1]
      -- '}' at once: no items
      have hitems : items = [] ↔ t_k b L (t_e b L ic) = 125 := by
        rw [eit]
        constructor
        · intro z
          have hLe : 0 < L := by
            have := t_kj (b := b) (L := L) (i := ic) (by rw [hk2]; decide)
            omega
          obtain ⟨L', eL⟩ : ∃ L', L = L' + 1 := ⟨L - 1, by omega⟩
          have hie2 : ie = t_e b L ic := by
            rw [eie]
            rw [eL] at z ⊢
            have z1 : (if t_is b (L' + 1) 2 (t_e b (L' + 1) ic) = true then some (t_v b (L' + 1) (t_e b (L' + 1) ic)) :: t_it b (L' + 1) true L' (t_e b (L' + 1) (t_e b (L' + 1) ic)) else if (true && t_is b (L' + 1) 44 (t_e b (L' + 1) ic)) = true then none :: t_it b (L' + 1) true L' (t_e b (L' + 1) (t_e b (L' + 1) ic)) else []) = [] := z
            show (if (t_is b (L' + 1) 2 (t_e b (L' + 1) ic) || (true && t_is b (L' + 1) 44 (t_e b (L' + 1) ic))) = true then t_lp b (L' + 1) true L' (t_e b (L' + 1) (t_e b (L' + 1) ic)) else t_e b (L' + 1) ic) = t_e b (L' + 1) ic
            by_cases w1 : t_is b (L' + 1) 2 (t_e b (L' + 1) ic) = true
            · rw [if_pos w1] at z1; exact absurd z1 (List.cons_ne_nil _ _)
            · rw [if_neg w1] at z1
              by_cases w2 : (true && t_is b (L' + 1) 44 (t_e b (L' + 1) ic)) = true
              · rw [if_pos w2] at z1; exact absurd z1 (List.cons_ne_nil _ _)
              · rw [if_neg (by rw [Bool.eq_false_iff.2 w1, Bool.eq_false_iff.2 w2]; exact Bool.noConfusion)]
          rw [← hie2]; exact hk3
        · intro z
          cases L with
          | zero => rfl
          | succ L' =>
            show (if t_is b (L' + 1) 2 (t_e b (L' + 1) ic) = true then some (t_v b (L' + 1) (t_e b (L' + 1) ic)) :: t_it b (L' + 1) true L' (t_e b (L' + 1) (t_e b (L' + 1) ic)) else if (true && t_is b (L' + 1) 44 (t_e b (L' + 1) ic)) = true then none :: t_it b (L' + 1) true L' (t_e b (L' + 1) (t_e b (L' + 1) ic)) else []) = []
            rw [if_neg (by unfold t_is; rw [z]; decide), if_neg (by unfold t_is; rw [z]; decide)]
      refine ⟨fun w => run false ⟨fun z => Bool.noConfusion z, fun z => absurd (hitems.2 w) z⟩, fun w => run true ⟨fun _ z => w (hitems.1 z), fun _ => rfl⟩⟩
    unfold w98_L65 w98_L78
    refine ⟨fun w => ?_, fun w => ?_⟩
    · have hy : y0 = false := Bool.eq_false_iff.2 (fun z => by rw [if_pos z] at w; exact t_10 w)
      exact ⟨fun _ => beg 0 0 (fun z => by rw [hy] at z; exact Bool.noConfusion z), fun w' => absurd w w'⟩
    · have hy : y0 = true := Classical.byContradiction (fun z => w (if_neg z))
      exact ⟨fun w' => absurd w' w, fun _ => beg x3 hd (fun z => ⟨ex3 z, rfl⟩)⟩
  have heads : ∀ (x2 x3 : Int32) (iv1 : Nat → Int32) (ra : Bool), ra = (!decide (t_fdt b L i = -1)) → (ra = true → x3 = t_fdt b L i) → r_tat iv1 b L ic → r_Eq iv iv1 → iv1 43 = 0 → (ra = true → w98_L48 post (nI m) x2 x3 hd iv1 gs gp fr fc gm gth ge gf gr gk gq gw gR gS go gz b nv) ∧ (ra = false → w98_L64 post (nI m) x2 x3 hd iv1 gs gp fr fc gm gth ge gf gr gk gq gw gR gS go gz b nv) := fun x2 x3 iv1 ra hra hx3 ht1 hq1 h431 => by
    have no : (!decide (t_fdt b L i = -1) && (!decide (hd < 0) && !decide (12 < hd))) = false → w98_L64 post (nI m) x2 x3 hd iv1 gs gp fr fc gm gth ge gf gr gk gq gw gR gS go gz b nv := fun z => start false x2 x3 iv1 z.symm (fun y => Bool.noConfusion y) ht1 hq1 h431
    refine ⟨fun hr => ⟨fun w => no ?_, fun w => ⟨fun w' => no ?_, fun w' => ?_⟩⟩, fun hr => no ?_⟩
    · rw [decide_eq_true w]
      show (_ && (false && _)) = false
      rw [Bool.false_and, Bool.and_false]
    · rw [decide_eq_true w']
      show (_ && (_ && false)) = false
      rw [Bool.and_false, Bool.and_false]
    · exact start true x2 x3 iv1 (by rw [← hra, hr, decide_eq_false w, decide_eq_false w']; rfl) (fun _ => hx3 hr) ht1 hq1 h431
    · rw [← hra, hr, Bool.false_and]
  have two : ∀ (x2 x3 : Int32), (x2 = 0 ∨ x2 = 1) → (x2 = 1 → x3 = 0 ∧ t_k b L i = 1) → (x2 = 0 → x3 = t_v b L i ∧ ¬ t_k b L i = 1) → w98_L26 post (nI m) x2 x3 iv gs gp fr fc gm gth ge gf gr gk gq gw gR gS go gz b nv := fun x2 x3 hx hx1 hx0 => by
    unfold w98_L26
    refine r_nxt hL hi ht (fun iv1 s1 s2 => ?_)
    refine r_told hL hib hk1 s1 (fun iv2 s3 s4 => ?_)
    rw [← ehd]
    rw [← eic] at s3
    have hq2 : r_Eq iv iv2 := fun q _ _ _ b4 b5 b6 _ => by rw [s4 q b4 b5 b6, s2 q b4 b5 b6]
    have h432 : iv2 43 = 0 := by rw [s4 43 (by decide) (by decide) (by decide), s2 43 (by decide) (by decide) (by decide)]; exact h43
    refine ⟨fun w => ?_, fun w => ?_⟩
    · have hx' : x2 = 1 := hx.resolve_left w
      obtain ⟨c1, c2⟩ := hx1 hx'
      have hf : t_fdt b L i = 0 := by unfold t_fdt; rw [if_pos c2]
      exact (heads x2 x3 iv2 true (by rw [hf]; rfl) (fun _ => by rw [c1, hf]) s3 hq2 h432).1 rfl
    · obtain ⟨c1, c2⟩ := hx0 w
      have hf : t_fdt b L i = if t_prm (t_v b L i) = true then t_v b L i else -1 := by unfold t_fdt; rw [if_neg c2]
      refine r_isPrime ⟨fun w' => ?_, fun w' => ?_⟩
      · have hp : ¬ t_prm (t_v b L i) = true := fun z => by rw [← c1] at z; rw [if_pos z] at w'; exact t_10 w'
        exact (heads x2 x3 iv2 false (by rw [hf, if_neg hp]; rfl) (fun z => Bool.noConfusion z) s3 hq2 h432).2 rfl
      · have hp : t_prm (t_v b L i) = true := Classical.byContradiction (fun z => by rw [← c1] at z; exact w' (if_neg z))
        obtain ⟨p2, e1, e2, e3, e4⟩ := x_hex hp
        refine (heads x2 x3 iv2 true ?_ (fun _ => by rw [c1, hf, if_pos hp]) s3 hq2 h432).1 rfl
        rw [hf, if_pos hp, e1, decide_eq_false]
        · rfl
        · intro z
          have hz : ∀ q, q < 252 → ¬ nI q = -1 := by decide +kernel
          exact hz p2 e3 z
  unfold w98_wp w98_L13
  rw [ht.2.1]
  refine ⟨fun w => ⟨fun _ => ?_, fun w' => absurd rfl w'⟩, fun w => ⟨fun w' => t_10 w', fun _ => two 1 0 (Or.inr rfl) (fun _ => ⟨rfl, w⟩) (fun z => t_10 z)⟩⟩
  have hk0 : t_k b L i = 2 := by
    unfold t_fld at hfl
    rw [Bool.or_eq_true, Bool.and_eq_true, Bool.and_eq_true] at hfl
    rcases hfl with z | z
    · exact of_decide_eq_true z
    · exact absurd (of_decide_eq_true z.1.1) w
  exact r_value hL hi hk0 ht (two 0 (t_v b L i) (Or.inl rfl) (fun z => t_10 z.symm) (fun _ => ⟨rfl, w⟩))
end RMX
