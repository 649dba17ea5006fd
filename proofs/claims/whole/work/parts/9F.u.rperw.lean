/-! PURE, the reference: perform, of a statement that makes (of numbers); perform whole -/
section TPO
variable {b : Nat → Int32} {L i : Nat} {tg : Int32}
theorem t_edsE {j : Nat} (h : (t_eds b L (true, j)).1 = true) : ∃ ie, t_k b L j = 123 ∧ (if t_is b L 2 (t_e b L j) = true then t_ed b L (L + 1) (t_e b L j) else (true, t_e b L j)) = (true, ie) ∧ t_k b L ie = 125 ∧ (t_eds b L (true, j)).2 = t_e b L ie := by
  unfold t_eds at h ⊢
  obtain ⟨w1, w2, w3⟩ := t_w1 h
  have h1 : (t_w b L (t_is b L 123) (true, j)).1 = true := by
    cases hq : (t_w b L (t_is b L 123) (true, j)).1 with
    | true => rfl
    | false => rw [if_neg (by rw [hq]; intro z; cases z.1), hq] at w1; cases w1
  obtain ⟨u1, u2, u3⟩ := t_w1 h1
  have e0 : (if (t_w b L (t_is b L 123) (true, j)).1 = true ∧ t_is b L 2 (t_w b L (t_is b L 123) (true, j)).2 = true then t_ed b L (L + 1) (t_w b L (t_is b L 123) (true, j)).2 else t_w b L (t_is b L 123) (true, j)) = (if t_is b L 2 (t_e b L j) = true then t_ed b L (L + 1) (t_e b L j) else (true, t_e b L j)) := by
    rw [u3]
    by_cases q : t_is b L 2 (t_e b L j) = true
    · rw [if_pos q, if_pos ⟨rfl, q⟩]
    · rw [if_neg q, if_neg (fun z => q z.2)]
  rw [e0] at w1 w2 w3 ⊢
  refine ⟨(if t_is b L 2 (t_e b L j) = true then t_ed b L (L + 1) (t_e b L j) else (true, t_e b L j)).2, of_decide_eq_true u2, ?_, of_decide_eq_true w2, by rw [w3]⟩
  exact t_p2 w1
theorem t_po0 (hV : s_V b L i 0 tg) (h : (t_st b L i).1 = true) : t_fld b L (t_ia b L i) = true ∧ t_ib b L i 0 = t_e b L (t_ia b L i) ∧ t_k b L (t_e b L (t_ia b L i)) = 2 ∧ t_id b L i 0 = t_e b L (t_e b L (t_ia b L i)) := by
  obtain ⟨_, s2, s3, s4, _, _, _⟩ := t_stA hV h
  have s2' : (t_w b L (t_fld b L) (true, t_ia b L i)) = (true, t_ib b L i 0) := s2
  obtain ⟨_, w2, w3⟩ := t_w1 (show (t_w b L (t_fld b L) (true, t_ia b L i)).1 = true by rw [s2'])
  have e1 : t_ib b L i 0 = t_e b L (t_ia b L i) := by
    rw [w3] at s2'; exact (congrArg Prod.snd s2').symm
  rw [e1] at s3
  have s3' : (t_w b L (t_is b L 2) (true, t_e b L (t_ia b L i))) = (true, t_ic b L i 0) := s3
  obtain ⟨_, x2, x3⟩ := t_w1 (show (t_w b L (t_is b L 2) (true, t_e b L (t_ia b L i))).1 = true by rw [s3'])
  have e2 : t_ic b L i 0 = t_e b L (t_e b L (t_ia b L i)) := by
    rw [x3] at s3'; exact (congrArg Prod.snd s3').symm
  refine ⟨w2, e1, of_decide_eq_true x2, ?_⟩
  rw [← e2]; rfl
theorem t_po1 (hV : s_V b L i 1 tg) (h : (t_st b L i).1 = true) : t_ib b L i 1 = t_ia b L i ∧ t_k b L (t_ia b L i) = 2 ∧ t_id b L i 1 = t_e b L (t_ia b L i) := by
  obtain ⟨_, s2, s3, s4, _, _, _⟩ := t_stA hV h
  have e1 : t_ib b L i 1 = t_ia b L i := rfl
  rw [e1] at s3
  have s3' : (t_w b L (t_is b L 2) (true, t_ia b L i)) = (true, t_ic b L i 1) := s3
  obtain ⟨_, x2, x3⟩ := t_w1 (show (t_w b L (t_is b L 2) (true, t_ia b L i)).1 = true by rw [s3'])
  have e2 : t_ic b L i 1 = t_e b L (t_ia b L i) := by
    rw [x3] at s3'; exact (congrArg Prod.snd s3').symm
  refine ⟨e1, of_decide_eq_true x2, ?_⟩
  rw [← e2]; rfl
theorem t_po2 (hV : s_V b L i 2 tg) (h : (t_st b L i).1 = true) : t_ib b L i 2 = t_ia b L i ∧ t_k b L (t_ia b L i) = 2 ∧ t_k b L (t_e b L (t_ia b L i)) = 2 ∧ t_id b L i 2 = t_e b L (t_e b L (t_ia b L i)) := by
  obtain ⟨_, s2, s3, s4, _, _, _⟩ := t_stA hV h
  have e1 : t_ib b L i 2 = t_ia b L i := rfl
  rw [e1] at s3
  have s3' : (t_w b L (t_is b L 2) (t_w b L (t_is b L 2) (true, t_ia b L i))) = (true, t_ic b L i 2) := s3
  obtain ⟨x1, x2, x3⟩ := t_w1 (show (t_w b L (t_is b L 2) (t_w b L (t_is b L 2) (true, t_ia b L i))).1 = true by rw [s3'])
  obtain ⟨_, y2, y3⟩ := t_w1 x1
  rw [y3] at x2 x3
  have e2 : t_ic b L i 2 = t_e b L (t_e b L (t_ia b L i)) := by
    rw [y3, x3] at s3'; exact (congrArg Prod.snd s3').symm
  refine ⟨e1, of_decide_eq_true y2, of_decide_eq_true x2, ?_⟩
  rw [← e2]; rfl
end TPO
theorem x_mdmd (p : Nat) (z : Int) : x_md p (x_md p z) = x_md p z := by
  unfold x_md
  split
  · rfl
  · exact Int.emod_emod_of_dvd _ (Int.dvd_refl _)
theorem x_mxO {p n k : Nat} {vs : List Int32} {g : Nat → Int} (h : x_of2 p k (x_mtR n vs) g) : x_of2 p k (x_mxA p n vs) g := by
  refine x_of2c h (fun F _ φ hm Q _ => ?_)
  have e : ∀ i, x_ro φ (x_mtR n vs i) = x_ro φ (x_mxA p n vs i) := fun i => by
    funext j
    unfold x_ro x_mtR x_mxA
    by_cases q : j < n
    · rw [if_pos q, if_pos q, Nat.mul_comm n i]
      exact (hm.2.2.2.2.2.2.2 _ _).2 (x_mdmd p _).symm
    · rw [if_neg q, if_neg q]
  exact ⟨fun w i hi => by rw [← e]; exact w i hi, fun w i hi => by rw [e]; exact w i hi⟩
theorem x_obN {v : Nat} {bad : Nat → Bool} (h : v ≤ 2) : x_ob v none none bad = if bad 0 = true then 2 else 0 := by
  unfold x_ob
  rw [if_neg (fun q => by omega)]
section RPN
variable {iv gs gp fr fc gm gth ge gf gr gk gq gw gR gS go gz gt gi gx b gl gsv sh gd : Nat → Int32} {gc gh : Nat → Int64} {nv : Nat → px_NV} {G : x_GS} {L i v : Nat} {tg : Int32} {m : Nat}
theorem r_pf02 {post : r_P8} (hL : L ≤ 16384) (hi : i ≤ L) (hV : s_V b L i v tg) (hst : (t_st b L i).1 = true) (hnm : t_nm b L i = true) (hv3 : v ≤ 2) (hT : r_T go gz) (hVn : r_V nv) (hLT : r_LT G.1 gth ge gf gr gk gq gw gR gS) (h43 : iv 43 = 0) (hU : rp_T iv sh G.2.2.2.2.2.2) (ht : r_tat iv b L i)
    (h : ∀ iv' gs' gp' fr' fc' gm' gth' ge' gf' gr' gk' gq' gw' gR' gS' gl' gsv' nv', r_AF b L i G iv iv' gth' ge' gf' gr' gk' gq' gw' gR' gS' sh nv' → post iv' gs' gp' fr' fc' gm' gth' ge' gf' gr' gk' gq' gw' gR' gS' go gz gc gh gt gi gx b gl' gsv' sh gd nv') :
    w104_wp post iv gs gp fr fc gm gth ge gf gr gk gq gw gR gS go gz gc gh gt gi gx b gl gsv sh gd nv := by
  have hv := t_pvE hV
  obtain ⟨s1, s2, s3, s4, s5, s6, s7⟩ := t_stA hV hst
  have eA : x_lt G.1 (t_pfi b L i) = none := by
    unfold t_pfi
    rw [hv, if_pos hv3]; exact x_ltM _
  have eB : x_lt G.1 (t_pse b L i) = none := by
    unfold t_pse
    rw [hv, if_neg (by omega)]; exact x_ltM _
  have eO : x_sO b L i G.1 = if t_pbad b L i 0 = true then 2 else 0 := by
    unfold x_sO
    rw [hv, eA, eB]; exact x_obN hv3
  have badO : t_pbad b L i 0 = true → x_sO b L i G.1 = 2 := fun w => by rw [eO, if_pos w]
  have goodO : t_pbad b L i 0 = false → x_sO b L i G.1 = 0 := fun w => by rw [eO, w]; rfl
  refine r_pfM hL hi hV hst hnm ht (fun m iv2 hm hmt hiw hv8 hvb t2 e2 => ?_)
  have hia := (t_el (b := b) hiw).2.1
  have x43 : iv2 43 = 0 := by rw [e2 43 (by decide) (by decide) (by decide)]; exact h43
  have eia : t_e b L (t_iw b L i) = t_ia b L i := rfl
  rw [eia] at hia
  have hia1 := (t_el (b := b) hia).2.1
  have hia2 := (t_el (b := b) hia1).2.1
  have c43 : ∀ iv1 : Nat → Int32, (∀ q, q ≠ 38 → q ≠ 39 → q ≠ 40 → iv1 q = iv2 q) → iv1 43 = 0 := fun iv1 e => by rw [e 43 (by decide) (by decide) (by decide)]; exact x43
  have ce : ∀ iv1 : Nat → Int32, (∀ q, q ≠ 38 → q ≠ 39 → q ≠ 40 → iv1 q = iv2 q) → ∀ q, q ≠ 38 → q ≠ 39 → q ≠ 40 → iv1 q = iv q := fun iv1 e q q1 q2 q3 => by rw [e q q1 q2 q3, e2 q q1 q2 q3]
  rcases (show v = 0 ∨ v = 1 ∨ v = 2 by omega) with rfl | rfl | rfl
  · obtain ⟨o1, o2, o3, o4⟩ := t_po0 hV hst
    have ert : t_rt b L 0 (true, t_id b L i 0) = t_ns b L true (true, t_e b L (t_e b L (t_ia b L i))) := by rw [o4]; rfl
    rw [ert] at s5 s6 s7
    obtain ⟨m1, m2, m3⟩ := t_nsE s5
    rw [m3] at s6 s7
    have hie : t_e b L (t_lp b L true L (t_e b L (t_e b L (t_e b L (t_ia b L i))))) ≤ L := (t_el (t_lpl L _ (t_el hia2).2.1)).2.1
    have evs : t_pvs b L i = t_vl (t_it b L true L (t_e b L (t_e b L (t_e b L (t_ia b L i))))) := by
      unfold t_pvs t_vals
      rw [hv, if_neg (by decide), if_pos rfl, o4]
    have ehd : t_phd b L i = t_v b L (t_e b L (t_ia b L i)) := by
      unfold t_phd
      rw [hv, o2]
    have epr : t_pro b L i = t_rows (t_phd b L i) (t_fo (t_phd b L i) (t_it b L true L (t_e b L (t_e b L (t_e b L (t_ia b L i))))) 0 0 true) := by
      unfold t_pro
      rw [hv, o4]
    have ebd : t_bad 0 (t_fdt b L (t_ia b L i)) (t_phd b L i) 0 [] (nI (t_rows (t_phd b L i) (t_fo (t_phd b L i) (t_it b L true L (t_e b L (t_e b L (t_e b L (t_ia b L i))))) 0 0 true)).1) (if (t_rows (t_phd b L i) (t_fo (t_phd b L i) (t_it b L true L (t_e b L (t_e b L (t_e b L (t_ia b L i))))) 0 0 true)).2 = true then 1 else 0) 0 = t_pbad b L i 0 := by
      rw [← epr]
      unfold t_pbad t_bad
      rw [hv, if_pos rfl, if_pos rfl]; rfl
    refine r_mkM hL hiw t2 hvb (fun iv3 t3 e3 => ?_)
    rw [eia] at t3
    refine r_matrix (p := (t_pfd b L i).toNatClampNeg) (n := (t_phd b L i).toNatClampNeg) (R := (t_pro b L i).1) (r0 := (x_gk (t_pfd b L i).toNatClampNeg (t_phd b L i).toNatClampNeg (x_mtR (t_phd b L i).toNatClampNeg (t_pvs b L i)) (t_pro b L i).1).1) (g := x_W (x_gk (t_pfd b L i).toNatClampNeg (t_phd b L i).toNatClampNeg (x_mtR (t_phd b L i).toNatClampNeg (t_pvs b L i)) (t_pro b L i).1).2 (x_gk (t_pfd b L i).toNatClampNeg (t_phd b L i).toNatClampNeg (x_mtR (t_phd b L i).toNatClampNeg (t_pvs b L i)) (t_pro b L i).1).1) (hd := t_phd b L i) hL hia hm hT hVn (c43 iv3 e3) t3 o1 o3 ehd rfl m1 rfl rfl m2 (fun w => ?_) (fun w iv' gs' nv' u1 u2 u3 u4 => ?_) (fun w iv' gs' gp' fr' fc' gm' gk' gq' gw' gR' gS' nv' u1 u2 u3 u4 u5 u6 u7 => ?_)
    · rw [ebd] at w
      obtain ⟨p, n, k1, k2, k3, k4, k5, k6, k7⟩ := t_go0 hL hv w
      have hp := (x_pmb k2).2
      rw [k1, k3, nI_clamp (show p < 2 ^ 31 by omega), nI_clamp (show n < 2 ^ 31 by omega)]
      obtain ⟨r1, r2⟩ := x_rawG (k := (t_pro b L i).1) k2 k4 (x_mtZ n (t_pvs b L i)) (x_mtB k7)
      refine ⟨k2, k1, rfl, ?_, r1, ?_⟩
      · rw [epr, k3]
      · rw [← evs]; exact x_mxO r2
    · rw [ebd] at w
      exact h _ _ _ _ _ _ _ _ _ _ _ _ _ _ _ _ _ _ (r_mkb u4 hLT hU (ce iv3 e3) (badO w) (by decide) u2 u3)
    · rw [ebd] at w
      refine h _ _ _ _ _ _ _ _ _ _ _ _ _ _ _ _ _ _ (r_mkd (C := x_raw (t_pfd b L i).toNatClampNeg (t_phd b L i).toNatClampNeg (t_pro b L i).1 (x_mtR (t_phd b L i).toNatClampNeg (t_pvs b L i))) hm hmt (by omega) u4 hLT hU (ce iv3 e3) (goodO w) ?_ u2 u3 hie u1 (by rw [s7]) u5 (fun e he => u6 e ?_) x_w09 u7)
      · unfold x_sC x_made
        rw [hv, if_pos rfl]
      · obtain ⟨p, n, k1, k2, k3, k4, k5, k6, k7⟩ := t_go0 hL hv w
        have he' : e < (t_phd b L i).toNatClampNeg := he
        rw [k3, nI_clamp (by omega)] at he'
        omega
  · obtain ⟨o2, o3, o4⟩ := t_po1 hV hst
    have ert : t_rt b L 1 (true, t_id b L i 1) = t_eds b L (true, t_e b L (t_ia b L i)) := by rw [o4]; rfl
    rw [ert] at s5 s6 s7
    obtain ⟨ie, m1, m2, m3, m4⟩ := t_edsE s5
    rw [m4] at s6 s7
    have hie : t_e b L ie ≤ L := by
      have := t_edsl (b := b) (L := L) (r := (true, t_e b L (t_ia b L i))) hia1
      rw [m4] at this; exact this
    have evs : t_pvs b L i = if t_is b L 2 (t_e b L (t_e b L (t_ia b L i))) = true then t_ev b L (L + 1) (t_e b L (t_e b L (t_ia b L i))) else [] := by
      unfold t_pvs t_vals
      rw [hv, if_pos rfl, o4]
    have ehd : t_phd b L i = t_v b L (t_ia b L i) := by
      unfold t_phd
      rw [hv, o2]
    have ebd : t_bad 1 0 (t_phd b L i) 0 (t_pvs b L i) 0 0 0 = t_pbad b L i 0 := by
      unfold t_pbad t_bad
      rw [hv, if_neg (by decide), if_pos rfl, if_neg (by decide), if_pos rfl]
    refine r_mkGr hL hiw t2 hvb (fun iv3 t3 e3 => ?_)
    rw [eia] at t3
    refine r_graph (V := (t_phd b L i).toNatClampNeg) (n := (t_pvs b L i).length / 2) (r0 := (x_gk 0 ((t_pvs b L i).length / 2) (x_grA ((t_pvs b L i).length / 2) (t_pvs b L i)) (t_phd b L i).toNatClampNeg).1) (g := x_W (x_gk 0 ((t_pvs b L i).length / 2) (x_grA ((t_pvs b L i).length / 2) (t_pvs b L i)) (t_phd b L i).toNatClampNeg).2 (x_gk 0 ((t_pvs b L i).length / 2) (x_grA ((t_pvs b L i).length / 2) (t_pvs b L i)) (t_phd b L i).toNatClampNeg).1) (hd := t_phd b L i) (vs := t_pvs b L i) hL hia hm hT hVn (c43 iv3 e3) t3 o3 ehd rfl m1 m2 evs m3 (fun w => ?_) (fun w iv' gs' gl' nv' u1 u2 u3 u4 => ?_) (fun w iv' gs' gp' fr' fc' gm' gk' gq' gw' gR' gS' gl' nv' u1 u2 u3 u4 u5 u6 u7 => ?_)
    · rw [ebd] at w
      obtain ⟨k, n, k1, k2, k3, k4, k5, k6⟩ := t_go1 hL hv w
      have en : (t_pvs b L i).length / 2 = n := by omega
      rw [k1, nI_clamp (show k < 2 ^ 31 by omega), en]
      obtain ⟨r1, r2⟩ := x_rawG (p := 0) (k := k) (Or.inl rfl) k5 (x_grZ n (t_pvs b L i)) (x_grB n (t_pvs b L i))
      exact ⟨rfl, k3, k4, r1, r2⟩
    · rw [ebd] at w
      exact h _ _ _ _ _ _ _ _ _ _ _ _ _ _ _ _ _ _ (r_mkb u4 hLT hU (ce iv3 e3) (badO w) (by decide) u2 u3)
    · rw [ebd] at w
      refine h _ _ _ _ _ _ _ _ _ _ _ _ _ _ _ _ _ _ (r_mkd (C := x_raw 0 ((t_pvs b L i).length / 2) (t_phd b L i).toNatClampNeg (x_grA ((t_pvs b L i).length / 2) (t_pvs b L i))) hm hmt (by omega) u4 hLT hU (ce iv3 e3) (goodO w) ?_ u2 u3 hie u1 (by rw [s7]) u5 (fun e he => u6 e ?_) x_w09 u7)
      · unfold x_sC x_made
        rw [hv, if_neg (by decide), if_pos rfl]
      · obtain ⟨k, n, k1, k2, k3, k4, k5, k6⟩ := t_go1 hL hv w
        have he' : e < (t_pvs b L i).length / 2 := he
        omega
  · obtain ⟨o2, o3, o5, o4⟩ := t_po2 hV hst
    have ert : t_rt b L 2 (true, t_id b L i 2) = (true, t_e b L (t_e b L (t_ia b L i))) := by rw [o4]; rfl
    rw [ert] at s5 s6 s7
    have ehd : t_phd b L i = t_v b L (t_ia b L i) := by
      unfold t_phd
      rw [hv, o2]
    have enx : t_pnx b L i = t_v b L (t_e b L (t_ia b L i)) := by
      unfold t_pnx
      rw [hv, o2]
    have ebd : t_bad 2 0 (t_phd b L i) (t_pnx b L i) [] 0 0 0 = t_pbad b L i 0 := by
      unfold t_pbad t_bad
      rw [hv, if_neg (by decide), if_neg (by decide), if_pos rfl, if_neg (by decide), if_neg (by decide), if_pos rfl]
    refine r_mkUn hL hiw t2 hvb (fun iv3 t3 e3 => ?_)
    rw [eia] at t3
    refine r_uniform (r := (t_phd b L i).toNatClampNeg) (n := (t_pnx b L i).toNatClampNeg) (r0 := (x_gk 0 (t_pnx b L i).toNatClampNeg (x_biA (t_pnx b L i).toNatClampNeg) (t_phd b L i).toNatClampNeg).1) (g := x_W (x_gk 0 (t_pnx b L i).toNatClampNeg (x_biA (t_pnx b L i).toNatClampNeg) (t_phd b L i).toNatClampNeg).2 (x_gk 0 (t_pnx b L i).toNatClampNeg (x_biA (t_pnx b L i).toNatClampNeg) (t_phd b L i).toNatClampNeg).1) (hd := t_phd b L i) (nx := t_pnx b L i) hL hia hm hT hVn (c43 iv3 e3) t3 o3 ehd o5 enx (fun w => ?_) (fun w iv' u1 u2 u3 => ?_) (fun w iv' gs' gp' fr' fc' gm' gk' gq' gw' gR' gS' nv' u1 u2 u3 u4 u5 u6 u7 => ?_)
    · rw [ebd] at w
      obtain ⟨k, n, k1, k2, k3, k4⟩ := t_go2 hv w
      rw [k1, k2, nI_clamp (show k < 2 ^ 31 by omega), nI_clamp (show n < 2 ^ 31 by omega)]
      obtain ⟨r1, r2⟩ := x_rawG (p := 0) (k := k) (Or.inl rfl) k4 (x_biZ n) (x_biB k4)
      exact ⟨rfl, rfl, k3, r1, x_of2c r2 (fun F _ φ hmm Q hQ => x_uniS hmm hQ k)⟩
    · rw [ebd] at w
      exact h _ _ _ _ _ _ _ _ _ _ _ _ _ _ _ _ _ _ (r_mkb hVn hLT hU (ce iv3 e3) (badO w) (by decide) u2 u3)
    · rw [ebd] at w
      refine h _ _ _ _ _ _ _ _ _ _ _ _ _ _ _ _ _ _ (r_mkd (C := x_raw 0 (t_pnx b L i).toNatClampNeg (t_phd b L i).toNatClampNeg (x_biA (t_pnx b L i).toNatClampNeg)) hm hmt (by omega) u4 hLT hU (ce iv3 e3) (goodO w) ?_ u2 u3 hia2 u1 (by rw [s7]) u5 (fun e he => u6 e ?_) x_w09 u7)
      · unfold x_sC x_made
        rw [hv, if_neg (by decide), if_neg (by decide), if_pos rfl]
      · obtain ⟨k, n, k1, k2, k3, k4⟩ := t_go2 hv w
        have he' : e < (t_pnx b L i).toNatClampNeg := he
        rw [k2, nI_clamp (by omega)] at he'
        omega
/-- perform -/
theorem r_perf {post : r_P8} (hL : L ≤ 16384) (hi : i ≤ L) (hst : (t_st b L i).1 = true) (hT : r_T go gz) (hVn : r_V nv) (hLT : r_LT G.1 gth ge gf gr gk gq gw gR gS) (h43 : iv 43 = 0) (hU : rp_T iv sh G.2.2.2.2.2.2) (ht : r_tat iv b L i)
    (h : ∀ iv' gs' gp' fr' fc' gm' gth' ge' gf' gr' gk' gq' gw' gR' gS' gc' gh' gt' gi' gx' gl' gsv' sh' gd' nv', r_AF b L i G iv iv' gth' ge' gf' gr' gk' gq' gw' gR' gS' sh' nv' → post iv' gs' gp' fr' fc' gm' gth' ge' gf' gr' gk' gq' gw' gR' gS' go gz gc' gh' gt' gi' gx' b gl' gsv' sh' gd' nv') :
    w104_wp post iv gs gp fr fc gm gth ge gf gr gk gq gw gR gS go gz gc gh gt gi gx b gl gsv sh gd nv := by
  obtain ⟨v, tg, hV⟩ := t_sV hst
  by_cases q : t_nm b L i = true
  · by_cases q3 : v ≤ 2
    · exact r_pf02 hL hi hV hst q q3 hT hVn hLT h43 hU ht (fun iv' gs' gp' fr' fc' gm' gth' ge' gf' gr' gk' gq' gw' gR' gS' gl' gsv' nv' w => h _ _ _ _ _ _ _ _ _ _ _ _ _ _ _ _ _ _ _ _ _ _ _ _ _ w)
    · exact r_pf37 hL hi hV hst q (by omega) hT hVn hLT h43 hU ht (fun iv' gs' gp' fr' fc' gm' gth' ge' gf' gr' gk' gq' gw' gR' gS' gl' gsv' nv' w => h _ _ _ _ _ _ _ _ _ _ _ _ _ _ _ _ _ _ _ _ _ _ _ _ _ w)
  · exact r_pfT hL hi hV hst q hT hVn hLT h43 hU ht (fun iv' gw' gc' gh' gt' gi' gx' gl' sh' gd' nv' w => h _ _ _ _ _ _ _ _ _ _ _ _ _ _ _ _ _ _ _ _ _ _ _ _ _ w)
end RPN
