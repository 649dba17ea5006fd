/-! PURE, the reference: makeGraph -/
def t_inr (hd x : Int32) : Bool := !decide (x < 0) && decide (x < hd)
theorem t_wiA (vs : List Int32) (hd : Int32) : t_wi vs hd = vs.all (t_inr hd) := by
  rw [Bool.eq_iff_iff, List.all_eq_true]
  unfold t_wi
  rw [decide_eq_true_eq]
  have key : ∀ x, t_inr hd x = true ↔ ¬ x < 0 ∧ x < hd := fun x => by
    unfold t_inr
    rw [Bool.and_eq_true, Bool.not_eq_true', decide_eq_false_iff_not, decide_eq_true_eq]
  constructor
  · intro h x hx
    obtain ⟨k, hk, e⟩ := List.mem_iff_getElem.1 hx
    have := h k hk
    rw [List.getD_eq_getElem?_getD, List.getElem?_eq_getElem hk, Option.getD_some, e] at this
    exact (key x).2 this
  · intro h j hj
    rw [List.getD_eq_getElem?_getD, List.getElem?_eq_getElem hj, Option.getD_some]
    exact (key _).1 (h _ (List.getElem_mem hj))
theorem b_iL0 : (0 : Int64) = iL 0 := by decide
theorem b_iL1 : (1 : Int64) = iL 1 := by decide
theorem b_iLm : (-1 : Int64) = iL (-1) := by decide
/-- the matrix of the edges vs -/
def x_grA (n : Nat) (vs : List Int32) (i e : Nat) : Int := if e < n then (if vs.getD (2 * e) 0 = vs.getD (2 * e + 1) 0 then 0 else if vs.getD (2 * e) 0 = nI i then -1 else if vs.getD (2 * e + 1) 0 = nI i then 1 else 0) else 0
section RGR
variable {L i m n V r0 : Nat} {g : Nat → Int} {b iv gs gp fr fc gm gth ge gf gr gk gq gw gR gS go gz gl : Nat → Int32} {nv : Nat → px_NV}
theorem r_graph {post : (Nat → Int32) → (Nat → Int32) → (Nat → Int32) → (Nat → Int32) → (Nat → Int32) → (Nat → Int32) → (Nat → Int32) → (Nat → Int32) → (Nat → Int32) → (Nat → Int32) → (Nat → Int32) → (Nat → Int32) → (Nat → Int32) → (Nat → Int32) → (Nat → Int32) → (Nat → Int32) → (Nat → Int32) → (Nat → Int32) → (Nat → Int32) → (Nat → px_NV) → Prop} {hd : Int32} {vs : List Int32} {ic ie : Nat} (hL : L ≤ 16384) (hi : i ≤ L) (hm : m < 26) (hT : r_T go gz) (hV : r_V nv) (h43 : iv 43 = 0) (ht : r_tat iv b L i) (hk1 : t_k b L i = 2) (ehd : hd = t_v b L i) (eic : ic = t_e b L i) (hk2 : t_k b L ic = 123) (hed : (if t_is b L 2 (t_e b L ic) = true then t_ed b L (L + 1) (t_e b L ic) else (true, t_e b L ic)) = (true, ie)) (evs : vs = if t_is b L 2 (t_e b L ic) = true then t_ev b L (L + 1) (t_e b L ic) else []) (hk3 : t_k b L ie = 125)
    (hgd : t_bad 1 0 hd 0 vs 0 0 0 = false → hd = nI V ∧ V ≤ 13 ∧ vs.length = 2 * n ∧ x_gh 0 n r0 g ∧ x_of2 0 V (x_grA n vs) g)
    (hB : t_bad 1 0 hd 0 vs 0 0 0 = true → ∀ iv' gs' gl' nv', r_tat iv' b L (t_e b L ie) → r_Eq iv iv' → iv' 43 = 2 → r_V nv' → post iv' gs' gp fr fc gm gth ge gf gr gk gq gw gR gS go gz b gl' nv')
    (hG : t_bad 1 0 hd 0 vs 0 0 0 = false → ∀ iv' gs' gp' fr' fc' gm' gk' gq' gw' gR' gS' gl' nv', r_tat iv' b L (t_e b L ie) → r_Eq iv iv' → iv' 43 = 0 → r_V nv' → r_G m 0 n r0 g (upd gth m 1) (upd ge m (nI n)) (upd gf m (nI 0)) (upd gr m (nI r0)) gk' gq' gR' gS' → (∀ e, e < 12 → gw' (12 * m + e) = 0) → r_kf m gk gq gw gR gS gk' gq' gw' gR' gS' → post iv' gs' gp' fr' fc' gm' (upd gth m 1) (upd ge m (nI n)) (upd gf m (nI 0)) (upd gr m (nI r0)) gk' gq' gw' gR' gS' go gz b gl' nv') : w99_wp post (nI m) iv gs gp fr fc gm gth ge gf gr gk gq gw gR gS go gz b gl nv := by
  have hic : ic ≤ L := by rw [eic]; exact (t_el hi).2.1
  have hid := (t_el (b := b) hic).2.1
  have hie : ie ≤ L := by
    by_cases q : t_is b L 2 (t_e b L ic) = true
    · rw [if_pos q] at hed
      have := t_edl (b := b) (L := L) (L + 1) (t_e b L ic) hid
      rw [hed] at this; exact this
    · rw [if_neg q] at hed
      injection hed with a1 a2
      rw [← a2]; exact hid
  -- the end
  have fin : ∀ (gd : Bool) (ne : Nat) (iv1 gl1 : Nat → Int32), ne ≤ L → vs.length = 2 * ne → gd = (!decide (hd < 1) && (!decide (13 < hd) && (vs.all (t_inr hd) && decide (ne ≤ 12)))) → r_tat iv1 b L ie → r_Eq iv iv1 → iv1 43 = 0 → (gd = true → ∀ k, k < 2 * ne → gl1 k = vs.getD k 0) → ∀ k, w99_L29 post (k + 1) (nI m) hd (if gd = true then 1 else 0) (nI ne) iv1 gs gp fr fc gm gth ge gf gr gk gq gw gR gS go gz b gl1 nv := fun gd ne iv1 gl1 hne hlen hgde ht1 hq1 h431 hgl k => by
    have hbad : t_bad 1 0 hd 0 vs 0 0 0 = !gd := by
      rw [hgde]
      unfold t_bad
      rw [if_neg (by decide), if_pos rfl, t_wiA, hlen]
      have h12 : decide (24 < 2 * ne) = !decide (ne ≤ 12) := by
        by_cases q : ne ≤ 12
        · rw [decide_eq_true q, decide_eq_false (by omega)]; rfl
        · rw [decide_eq_false q, decide_eq_true (by omega)]; rfl
      rw [h12]
      generalize decide (hd < 1) = a1
      generalize decide (13 < hd) = a2
      generalize vs.all (t_inr hd) = a3
      generalize decide (ne ≤ 12) = a4
      cases a1 <;> cases a2 <;> cases a3 <;> cases a4 <;> rfl
    unfold w99_L29
    rw [ht1.2.1, hk3]
    refine ⟨fun _ => ?_, fun w => absurd rfl w⟩
    refine r_nxt hL hie ht1 (fun iv2 ht2 hq2 => ?_)
    have h432 : iv2 43 = 0 := by rw [hq2 43 (by decide) (by decide) (by decide)]; exact h431
    have hq2' : r_Eq iv1 iv2 := fun q _ _ _ a4 a5 a6 _ => hq2 q a4 a5 a6
    refine r_may h432 (by decide) (fun w => ⟨fun _ => ?_, fun w0 => t_10 w0⟩) (fun w => ⟨fun w0 => absurd rfl w0, fun _ => ?_⟩)
    · have hg : gd = true := Classical.byContradiction (fun q => w (if_neg q))
      rw [hg] at hbad
      obtain ⟨c1, hV13, c2, c3, c4⟩ := hgd hbad
      have en : ne = n := by omega
      subst en
      have hn := c3.1
      have u12 : va_up (va_up (va_up iv2 12 0) 11 (nI ne)) 10 0 12 = 0 := by rw [va_up_ne _ _ (by decide), va_up_ne _ _ (by decide), va_up_self]
      have u11 : va_up (va_up (va_up iv2 12 0) 11 (nI ne)) 10 0 11 = nI ne := by rw [va_up_ne _ _ (by decide), va_up_self]
      have hup : ∀ q, q ≠ 10 → q ≠ 11 → q ≠ 12 → va_up (va_up (va_up iv2 12 0) 11 (nI ne)) 10 0 q = iv2 q := fun q q1 q2 q3 => by rw [va_up_ne _ _ q1, va_up_ne _ _ q2, va_up_ne _ _ q3]
      show ∃ j, w99_L160 post j (nI m) hd _ (nI ne) 0 (va_up (va_up (va_up iv2 12 0) 11 (nI ne)) 10 0) gs gp fr fc gm gth ge gf gr gk gq gw gR gS go gz b gl1 nv
      generalize va_up (va_up (va_up iv2 12 0) 11 (nI ne)) 10 0 = iv3 at *
      rw [c1]
      have rows : ∀ (u i' : Nat) (gs1 : Nat → Int32) (nv1 : Nat → px_NV), i' + u = V → r_X 0 ne i' gs1 nv1 (x_grA ne vs) → w99_L160 post (u + 1) (nI m) (nI V) (if gd = true then 1 else 0) (nI ne) (nI i') iv3 gs1 gp fr fc gm gth ge gf gr gk gq gw gR gS go gz b gl1 nv1 := by
        intro u
        induction u with
        | zero =>
          intro i' gs1 nv1 hi' hX
          have : i' = V := by omega
          subst this
          refine ⟨fun _ => ?_, fun w => absurd (nI_le (Nat.le_refl i') (by omega)) w⟩
          refine r_becG (A := x_grA ne vs) (R := i') (n := ne) (Or.inl rfl) hm (by rw [va_up_ne _ _ (by decide)]; exact u12) (by rw [va_up_ne _ _ (by decide)]; exact u11) (va_up_self _ _ _) (by omega) hT hX (fun i2 _ j hj => by unfold x_grA; rw [if_neg (by omega)]) (fun _ => Or.inl (fun i2 _ j _ => ?_)) (fun p0 => absurd rfl p0) c3 c4 (fun gs' gp' fr' fc' gm' gk' gq' gw' gR' gS' nv' a1 a2 a3 a4 => hG hbad _ gs' gp' fr' fc' gm' gk' gq' gw' gR' gS' gl1 nv' ?_ ?_ ?_ a1 a2 a3 a4)
          · have h39 : (1 : Nat) ≤ 2 ^ 39 := by decide
            unfold x_grA
            split
            · split
              · exact Nat.zero_le _
              · split
                · exact h39
                · split
                  · exact h39
                  · exact Nat.zero_le _
            · exact Nat.zero_le _
          · obtain ⟨e1, e2, e3, e4⟩ := ht2
            exact ⟨by rw [va_up_ne _ _ (by decide), va_up_ne _ _ (by decide), hup 37 (by decide) (by decide) (by decide)]; exact e1, by rw [va_up_ne _ _ (by decide), va_up_ne _ _ (by decide), hup 38 (by decide) (by decide) (by decide)]; exact e2, by rw [va_up_ne _ _ (by decide), va_up_ne _ _ (by decide), hup 39 (by decide) (by decide) (by decide)]; exact e3, by rw [va_up_ne _ _ (by decide), va_up_ne _ _ (by decide), hup 40 (by decide) (by decide) (by decide)]; exact e4⟩
          · exact r_EqT (r_EqT hq1 hq2') (fun q a1 a2 a3 _ _ _ _ => by rw [va_up_ne _ _ a1, va_up_ne _ _ a1]; exact hup q a1 a2 a3)
          · rw [va_up_ne _ _ (by decide), va_up_ne _ _ (by decide), hup 43 (by decide) (by decide) (by decide)]; exact h432
        | succ u ih =>
          intro i' gs1 nv1 hi' hX
          refine ⟨fun w => absurd w (nI_ge (by omega) (by omega)), fun _ => ⟨ne + 1, ?_⟩⟩
          have cells : ∀ (v e : Nat) (gs2 : Nat → Int32) (nv2 : Nat → px_NV), e + v = ne → r_X 0 ne i' gs2 nv2 (x_grA ne vs) → (∀ e', e' < e → r_e 0 gs2 nv2 (12 * i' + e') (x_grA ne vs i' e')) → w99_L169 (w99_L160 post (u + 1)) post (v + 1) (nI m) (nI V) (if gd = true then 1 else 0) (nI ne) (nI i') (nI e) iv3 gs2 gp fr fc gm gth ge gf gr gk gq gw gR gS go gz b gl1 nv2 := by
            intro v
            induction v with
            | zero =>
              intro e gs2 nv2 he hX2 hC
              have : e = ne := by omega
              subst this
              refine ⟨fun _ z6 e6 => ?_, fun w => absurd (nI_le (Nat.le_refl e) (by omega)) w⟩
              rw [e6, nI_1]
              refine ih (i' + 1) gs2 nv2 (by omega) ⟨hX2.1, fun i2 hi2 j hj => ?_⟩
              by_cases q : i2 = i'
              · subst q
                have := hC j hj
                exact this
              · exact hX2.2 i2 (by omega) j hj
            | succ v ihv =>
              intro e gs2 nv2 he hX2 hC
              have put : ∀ (x : Int) (y : Int64), y = iL x → x = x_grA ne vs i' e → (-1 ≤ x ∧ x ≤ 1) → ∀ z7 z8 : Int32, w99_L244 (w99_L160 post (u + 1)) (w99_L169 (w99_L160 post (u + 1)) post (v + 1)) post (nI m) (nI V) (if gd = true then 1 else 0) (nI ne) (nI i') (nI e) z7 z8 y (nI e) (nI i') iv3 gs2 gp fr fc gm gth ge gf gr gk gq gw gR gS go gz b gl1 nv2 := fun x y hy ex hx z7 z8 => by
                unfold w99_L244
                rw [hy]
                refine r_put (p := 0) (v := x) (Or.inl rfl) u12 (by omega) (by omega) (by omega) (by omega) (fun gs3 nv3 b1 b2 b3 b4 z ez => ?_)
                rw [ez, nI_1]
                refine ihv (e + 1) gs3 nv3 (by omega) (r_Xk (by omega) hn hX2 (show e < ne by omega) b1 b2 b4) (fun e' he' => ?_)
                by_cases q : e' = e
                · rw [q, ← ex]
                  rw [if_pos rfl] at b3
                  exact b3
                · exact r_ek (d' := 0) (hC e' (by omega)) (b1 _ (by omega)) (b2 _ (by omega))
              have i1 : (2 : Int32) * nI e = nI (2 * e) := by rw [show (2 : Int32) = nI 2 from rfl, pk_mul]
              unfold w99_L169 w99_L226 w99_L230
              rw [i1, nI_1 (a := 2 * e), nI_clamp (show 2 * e < 2 ^ 31 by omega), nI_clamp (show 2 * e + 1 < 2 ^ 31 by omega), hgl hg (2 * e) (by omega), hgl hg (2 * e + 1) (by omega)]
              have eA : x_grA ne vs i' e = if vs.getD (2 * e) 0 = vs.getD (2 * e + 1) 0 then 0 else if vs.getD (2 * e) 0 = nI i' then -1 else if vs.getD (2 * e + 1) 0 = nI i' then 1 else 0 := by unfold x_grA; rw [if_pos (by omega)]
              refine ⟨fun w => absurd w (nI_ge (by omega) (by omega)), fun _ => ⟨b_in (by omega) (by omega), fun z7 e7 => ⟨b_in (by omega) (by omega), fun z8 e8 => ?_⟩⟩⟩
              rw [← e7, ← e8] at eA
              refine ⟨fun w => put 0 0 b_iL0 (by rw [eA, if_pos w]) (by decide) z7 z8, fun w => ⟨fun w' => ⟨fun w'' => absurd w' w'', fun _ => put (-1) (-1) b_iLm (by rw [eA, if_neg w, if_pos w']) (by decide) z7 z8⟩, fun w' => ⟨fun w'' => ⟨fun _ => put 1 1 b_iL1 (by rw [eA, if_neg w, if_neg w', if_pos w'']) (by decide) z7 z8, fun w3 => absurd w3 w'⟩, fun w'' => put 0 0 b_iL0 (by rw [eA, if_neg w, if_neg w', if_neg w'']) (by decide) z7 z8⟩⟩⟩
          exact cells ne 0 gs1 nv1 (by omega) hX (fun e' he' => absurd he' (Nat.not_lt_zero e'))
      exact ⟨V + 1, rows V 0 gs nv (by omega) ⟨hV, fun i2 hi2 => absurd hi2 (Nat.not_lt_zero i2)⟩⟩
    · have hg : gd = false := Bool.eq_false_iff.2 (fun q => by rw [if_pos q] at w; exact t_10 w)
      rw [hg] at hbad
      refine hB hbad _ gs gl1 nv ?_ ?_ (va_up_self _ _ _) hV
      · obtain ⟨e1, e2, e3, e4⟩ := ht2
        exact ⟨by rw [va_up_ne _ _ (by decide)]; exact e1, by rw [va_up_ne _ _ (by decide)]; exact e2, by rw [va_up_ne _ _ (by decide)]; exact e3, by rw [va_up_ne _ _ (by decide)]; exact e4⟩
      · exact r_EqT (r_EqT hq1 hq2') (fun q _ _ _ _ _ _ a7 => va_up_ne _ _ a7)
  -- the edges
  have loop : ∀ (u j : Nat) (gd : Bool) (ne : Nat) (pre : List Int32) (iv1 gl1 : Nat → Int32), j ≤ L → t_is b L 2 j = true → t_ed b L u j = (true, ie) → vs = pre ++ t_ev b L u j → pre.length = 2 * ne → ne ≤ j → gd = (!decide (hd < 1) && (!decide (13 < hd) && (pre.all (t_inr hd) && decide (ne ≤ 12)))) → r_tat iv1 b L j → r_Eq iv iv1 → iv1 43 = 0 → (gd = true → ∀ k, k < 2 * ne → gl1 k = vs.getD k 0) → w99_L29 post (u + 1) (nI m) hd (if gd = true then 1 else 0) (nI ne) iv1 gs gp fr fc gm gth ge gf gr gk gq gw gR gS go gz b gl1 nv := by
    intro u
    induction u with
    | zero =>
      intro j gd ne pre iv1 gl1 a1 a2 a3
      exact absurd a3 (by intro q; injection q with q1 q2; exact Bool.noConfusion q1)
    | succ u ih =>
      intro j gd ne pre iv1 gl1 a1 a2 a3 a4 a5 a6 a7 a8 a9 a10 a11
      have hed1 : t_ed b L (u + 1) j = if t_is b L 2 j = true then (if t_is b L 2 (t_e b L j) = true then (if t_is b L 44 (t_e b L (t_e b L j)) = true then t_ed b L u (t_e b L (t_e b L (t_e b L j))) else (true, t_e b L (t_e b L j))) else (false, t_e b L j)) else (false, j) := rfl
      rw [hed1, if_pos a2] at a3
      have hev : t_ev b L (u + 1) j = t_v b L j :: t_v b L (t_e b L j) :: (if t_is b L 44 (t_e b L (t_e b L j)) = true then t_ev b L u (t_e b L (t_e b L (t_e b L j))) else []) := rfl
      rw [hev] at a4
      have hk : t_k b L j = 2 := of_decide_eq_true a2
      have adv1 := t_isj a1 (by decide) a2
      by_cases q1 : t_is b L 2 (t_e b L j) = true
      · rw [if_pos q1] at a3
        have hk' : t_k b L (t_e b L j) = 2 := of_decide_eq_true q1
        have adv2 := t_isj adv1.2 (by decide) q1
        -- after an edge
        have av : vs.getD (2 * ne) 0 = t_v b L j ∧ vs.getD (2 * ne + 1) 0 = t_v b L (t_e b L j) := by
          constructor
          · rw [a4, List.getD_eq_getElem?_getD, List.getElem?_append_right (by omega), a5, Nat.sub_self]; rfl
          · rw [a4, List.getD_eq_getElem?_getD, List.getElem?_append_right (by omega), a5, show 2 * ne + 1 - 2 * ne = 1 by omega]; rfl
        have after : ∀ (y : Bool) (iv2 gl2 : Nat → Int32), y = (gd && (t_inr hd (t_v b L j) && (t_inr hd (t_v b L (t_e b L j)) && decide (ne < 12)))) → r_tat iv2 b L (t_e b L (t_e b L j)) → r_Eq iv iv2 → iv2 43 = 0 → (y = true → ∀ k, k < 2 * (ne + 1) → gl2 k = vs.getD k 0) → w99_L117 (w99_L29 post (u + 1)) post (nI m) hd (if y = true then 1 else 0) (nI ne) (t_v b L j) (t_v b L (t_e b L j)) iv2 gs gp fr fc gm gth ge gf gr gk gq gw gR gS go gz b gl2 nv := fun y iv2 gl2 ey t1 t2 t3 t4 => by
          unfold w99_L117 w99_L133
          intro z28 e28
          rw [e28, nI_1, t1.2.1]
          have ey2 : y = (!decide (hd < 1) && (!decide (13 < hd) && ((pre ++ [t_v b L j, t_v b L (t_e b L j)]).all (t_inr hd) && decide (ne + 1 ≤ 12)))) := by
            rw [ey, a7, List.all_append]
            have e12 : decide (ne + 1 ≤ 12) = (decide (ne ≤ 12) && decide (ne < 12)) := by
              by_cases z : ne < 12
              · rw [decide_eq_true z, decide_eq_true (show ne + 1 ≤ 12 by omega), decide_eq_true (show ne ≤ 12 by omega)]; rfl
              · rw [decide_eq_false z, decide_eq_false (show ¬ ne + 1 ≤ 12 by omega), Bool.and_false]
            rw [e12]
            show _ = (_ && (_ && ((pre.all (t_inr hd) && (t_inr hd (t_v b L j) && (t_inr hd (t_v b L (t_e b L j)) && true))) && _)))
            generalize decide (hd < 1) = x1
            generalize decide (13 < hd) = x2
            generalize pre.all (t_inr hd) = x3
            generalize t_inr hd (t_v b L j) = x4
            generalize t_inr hd (t_v b L (t_e b L j)) = x5
            generalize decide (ne ≤ 12) = x6
            generalize decide (ne < 12) = x7
            cases x1 <;> cases x2 <;> cases x3 <;> cases x4 <;> cases x5 <;> cases x6 <;> cases x7 <;> rfl
          refine ⟨fun w => ?_, fun w => ?_⟩
          · have q2 : ¬ t_is b L 44 (t_e b L (t_e b L j)) = true := fun z => w (of_decide_eq_true z)
            rw [if_neg q2] at a3 a4
            injection a3 with z1 z2
            have hlen : vs.length = 2 * (ne + 1) := by rw [a4, List.length_append, a5]; rfl
            rw [z2] at t1
            exact fin y (ne + 1) iv2 gl2 (by omega) hlen (by rw [ey2, a4]) t1 t2 t3 t4 u
          · have q2 : t_is b L 44 (t_e b L (t_e b L j)) = true := decide_eq_true w
            have adv3 := t_isj adv2.2 (by decide) q2
            rw [if_pos q2] at a3 a4
            refine r_nxt hL adv2.2 t1 (fun iv3 s1 s2 => ?_)
            have hnum : t_is b L 2 (t_e b L (t_e b L (t_e b L j))) = true := Classical.byContradiction (fun z => by
              cases u with
              | zero => injection a3 with z1 z2; exact Bool.noConfusion z1
              | succ u' =>
                have : t_ed b L (u' + 1) (t_e b L (t_e b L (t_e b L j))) = (false, t_e b L (t_e b L (t_e b L j))) := by
                  show (if t_is b L 2 (t_e b L (t_e b L (t_e b L j))) = true then _ else (false, t_e b L (t_e b L (t_e b L j)))) = _
                  rw [if_neg z]
                rw [this] at a3
                injection a3 with z1 z2; exact Bool.noConfusion z1)
            exact ih _ y (ne + 1) (pre ++ [t_v b L j, t_v b L (t_e b L j)]) iv3 gl2 adv3.2 hnum a3 (by rw [a4, List.append_assoc]; rfl) (by rw [List.length_append, a5]; rfl) (by omega) ey2 s1 (r_EqT t2 (fun q _ _ _ b4 b5 b6 _ => s2 q b4 b5 b6)) (by rw [s2 43 (by decide) (by decide) (by decide)]; exact t3) t4
        unfold w99_L29
        rw [a8.2.1, hk]
        refine ⟨fun w => absurd w (by decide), fun _ => ?_⟩
        refine r_told hL a1 hk a8 (fun iv2 s1 s2 => ?_)
        refine r_told hL adv1.2 hk' s1 (fun iv3 s3 s4 => ?_)
        have t2 : r_Eq iv iv3 := r_EqT a9 (fun q _ _ _ b4 b5 b6 _ => by rw [s4 q b4 b5 b6, s2 q b4 b5 b6])
        have t3 : iv3 43 = 0 := by rw [s4 43 (by decide) (by decide) (by decide), s2 43 (by decide) (by decide) (by decide)]; exact a10
        have no : false = (gd && (t_inr hd (t_v b L j) && (t_inr hd (t_v b L (t_e b L j)) && decide (ne < 12)))) → ∀ x3 : Int32, w99_L87 (w99_L29 post (u + 1)) post (nI m) hd x3 (nI ne) (t_v b L j) (t_v b L (t_e b L j)) iv3 gs gp fr fc gm gth ge gf gr gk gq gw gR gS go gz b gl1 nv := fun z x3 => by
          unfold w99_L87 w99_L88
          exact ⟨fun _ => after false iv3 gl1 z s3 t2 t3 (fun y => Bool.noConfusion y), fun w => absurd rfl w⟩
        refine ⟨fun w => no ?_ _, fun w => ⟨fun w1 => no ?_ _, fun w1 => ⟨fun w2 => no ?_ _, fun w2 => ⟨fun w3 => no ?_ _, fun w3 => ⟨fun w4 => no ?_ _, fun w4 => ⟨fun w5 => no ?_ _, fun w5 => ?_⟩⟩⟩⟩⟩⟩
        · have hg : gd = false := Bool.eq_false_iff.2 (fun y => by rw [if_pos y] at w; exact t_10 w)
          rw [hg]; rfl
        · have : t_inr hd (t_v b L j) = false := by unfold t_inr; rw [decide_eq_true w1]; rfl
          rw [this, Bool.false_and, Bool.and_false]
        · have : t_inr hd (t_v b L j) = false := by unfold t_inr; rw [decide_eq_false (Int32.not_lt.2 w2), Bool.and_false]
          rw [this, Bool.false_and, Bool.and_false]
        · have : t_inr hd (t_v b L (t_e b L j)) = false := by unfold t_inr; rw [decide_eq_true w3]; rfl
          rw [this, Bool.false_and, Bool.and_false, Bool.and_false]
        · have : t_inr hd (t_v b L (t_e b L j)) = false := by unfold t_inr; rw [decide_eq_false (Int32.not_lt.2 w4), Bool.and_false]
          rw [this, Bool.false_and, Bool.and_false, Bool.and_false]
        · have : ¬ ne < 12 := fun z => absurd w5 (show ¬ nI 12 ≤ nI ne from nI_ge (by omega) (by omega))
          rw [decide_eq_false this, Bool.and_false, Bool.and_false, Bool.and_false]
        · have hg : gd = true := Classical.byContradiction (fun y => w (if_neg y))
          have hne : ne < 12 := Classical.byContradiction (fun z => w5 (show nI 12 ≤ nI ne from nI_le (by omega) (by omega)))
          have i1 : (2 : Int32) * nI ne = nI (2 * ne) := by rw [show (2 : Int32) = nI 2 from rfl, pk_mul]
          unfold w99_L88
          rw [i1, nI_1, nI_clamp (show 2 * ne < 2 ^ 31 by omega), nI_clamp (show 2 * ne + 1 < 2 ^ 31 by omega)]
          refine ⟨fun z => t_10 z, fun _ => ⟨b_in (by omega) (by omega), b_in (by omega) (by omega), after true iv3 _ ?_ s3 t2 t3 (fun _ k hk2 => ?_)⟩⟩
          · have e1 : t_inr hd (t_v b L j) = true := by unfold t_inr; rw [decide_eq_false w1, decide_eq_true (Int32.not_le.1 w2)]; rfl
            have e2 : t_inr hd (t_v b L (t_e b L j)) = true := by unfold t_inr; rw [decide_eq_false w3, decide_eq_true (Int32.not_le.1 w4)]; rfl
            rw [hg, e1, e2, decide_eq_true hne]; rfl
          · by_cases z1 : k = 2 * ne + 1
            · rw [z1, pk_us]; exact av.2.symm
            · rw [pk_un z1]
              by_cases z2 : k = 2 * ne
              · rw [z2, pk_us]; exact av.1.symm
              · rw [pk_un z2]; exact a11 hg k (by omega)
      · rw [if_neg q1] at a3
        injection a3 with z1 z2; exact Bool.noConfusion z1
  have start : ∀ (y0 : Bool) (iv1 : Nat → Int32), y0 = (!decide (hd < 1) && !decide (13 < hd)) → r_tat iv1 b L ic → r_Eq iv iv1 → iv1 43 = 0 → w99_L21 post (nI m) hd (if y0 = true then 1 else 0) iv1 gs gp fr fc gm gth ge gf gr gk gq gw gR gS go gz b gl nv := fun y0 iv1 ey t1 t2 t3 => by
    unfold w99_L21
    refine r_nxt hL hic t1 (fun iv2 s1 s2 => ?_)
    have u2 : r_Eq iv iv2 := r_EqT t2 (fun q _ _ _ b4 b5 b6 _ => s2 q b4 b5 b6)
    have u3 : iv2 43 = 0 := by rw [s2 43 (by decide) (by decide) (by decide)]; exact t3
    by_cases q : t_is b L 2 (t_e b L ic) = true
    · rw [if_pos q] at hed evs
      exact ⟨_, loop (L + 1) (t_e b L ic) y0 0 [] iv2 gl hid q hed evs rfl (Nat.zero_le _) (by rw [ey]; show _ = (_ && (_ && (true && true))); rw [Bool.and_true, Bool.and_true]) s1 u2 u3 (fun _ k hk => absurd hk (by omega))⟩
    · rw [if_neg q] at hed evs
      injection hed with z1 z2
      rw [z2] at s1
      exact ⟨_, fin y0 0 iv2 gl (Nat.zero_le _) (by rw [evs]; rfl) (by rw [ey, evs]; show _ = (_ && (_ && (true && true))); rw [Bool.and_true, Bool.and_true]) s1 u2 u3 (fun _ k hk => absurd hk (by omega)) 0⟩
  unfold w99_wp w99_L20
  refine r_told hL hi hk1 ht (fun iv1 s1 s2 => ?_)
  rw [← ehd]
  rw [← eic] at s1
  have u2 : r_Eq iv iv1 := fun q _ _ _ b4 b5 b6 _ => s2 q b4 b5 b6
  have u3 : iv1 43 = 0 := by rw [s2 43 (by decide) (by decide) (by decide)]; exact h43
  refine ⟨fun w => start false iv1 (by rw [decide_eq_true w]; rfl) s1 u2 u3, fun w => ⟨fun w' => start false iv1 (by rw [decide_eq_true w', Bool.and_comm]; rfl) s1 u2 u3, fun w' => start true iv1 (by rw [decide_eq_false w, decide_eq_false w']; rfl) s1 u2 u3⟩⟩
end RGR
