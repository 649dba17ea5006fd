/-! PURE, the reference: perform, of a statement that makes (of other matroids) -/
section RPM
variable {iv gs gp fr fc gm gth ge gf gr gk gq gw gR gS go gz gt gi gx b gl gsv sh gd : Nat → Int32} {gc gh : Nat → Int64} {nv : Nat → px_NV} {G : x_GS} {L i v : Nat} {tg : Int32} {m : Nat}
theorem r_pfM {post : r_P8} (hL : L ≤ 16384) (hi : i ≤ L) (hV : s_V b L i v tg) (hst : (t_st b L i).1 = true) (hnm : t_nm b L i = true) (ht : r_tat iv b L i)
    (h : ∀ m iv2, m < 26 → t_ptg b L i = m → t_iw b L i ≤ L → v < 8 → t_vb b L (t_iw b L i) 0 8 = nI v → r_tat iv2 b L (t_iw b L i) → (∀ q, q ≠ 38 → q ≠ 39 → q ≠ 40 → iv2 q = iv q) → w102_wp (fun v57 v58 v59 v60 v61 v62 v63 v64 v65 v66 v67 v68 v69 v70 v71 v72 v73 v74 v75 v76 v77 => post v57 v58 v59 v60 v61 v62 v63 v64 v65 v66 v67 v68 v69 v70 v71 v72 v73 gc gh gt gi gx v74 v75 v76 sh gd v77) (nI m) iv2 gs gp fr fc gm gth ge gf gr gk gq gw gR gS go gz b gl gsv nv) :
    w104_wp post iv gs gp fr fc gm gth ge gf gr gk gq gw gR gS go gz gc gh gt gi gx b gl gsv sh gd nv := by
  obtain ⟨hv21, hV2⟩ := id hV
  rw [if_pos hnm] at hV2
  obtain ⟨hv8, _, hvb⟩ := hV2
  obtain ⟨m, hm, em⟩ := t_nmx hnm
  have hj : t_j b L i < L := t_kj (by rw [(t_nmb hnm).2.1]; decide)
  have hi1 := (t_el (b := b) hi).2.1
  have hi2 := (t_el (b := b) hi1).2.1
  have eiw : t_iw b L i = t_e b L (t_e b L i) := if_pos hnm
  unfold w104_wp
  refine r_isn hL hi ht.2.1 ht.2.2.1 ht.2.2.2 ⟨fun q => ?_, fun _ => ?_⟩
  · rw [if_pos hnm] at q; exact t_10 q
  · refine r_letter hL hi hj ht (fun iv1 t1 e1 => r_nxt hL hi1 t1 (fun iv2 t2 e2 => ?_))
    rw [em]
    exact h m iv2 hm (by unfold t_ptg; rw [em, nI_clamp (by omega)]) (by rw [eiw]; exact hi2) hv8 hvb (by rw [eiw]; exact t2) (fun q q1 q2 q3 => by rw [e2 q q1 q2 q3, e1 q q1 q2 q3])
/-- what cannot be made -/
theorem r_mkb {iv2 iv' : Nat → Int32} {why : Int32} (hVn : r_V nv) (hLT : r_LT G.1 gth ge gf gr gk gq gw gR gS) (hU : rp_T iv sh G.2.2.2.2.2.2) (e2 : ∀ q, q ≠ 38 → q ≠ 39 → q ≠ 40 → iv2 q = iv q) (hO : x_sO b L i G.1 = why) (hw : ¬ why = 0) (hE : r_Eq iv2 iv') (h43 : iv' 43 = why) : r_AF b L i G iv iv' gth ge gf gr gk gq gw gR gS sh nv := by
  have eS : x_stp b L i G = (G, why) := by
    unfold x_stp
    rw [hO, if_pos hw]
  unfold r_AF
  rw [eS]
  exact ⟨hVn, hLT, h43, rp_Tq hU (by rw [hE 47 (by decide) (by decide) (by decide) (by decide) (by decide) (by decide) (by decide)]; exact e2 47 (by decide) (by decide) (by decide)), fun q => absurd q hw, r_E2T (r_E2t e2) (r_E2E hE)⟩
/-- what is made -/
theorem r_mkd {iv2 iv' gk' gq' gw' gR' gS' : Nat → Int32} {nv' : Nat → px_NV} {C : x_LR} {j n p r : Nat} (hm : m < 26) (hmt : t_ptg b L i = m) (hv : t_pv b L i ≤ 7) (hVn : r_V nv') (hLT : r_LT G.1 gth ge gf gr gk gq gw gR gS) (hU : rp_T iv sh G.2.2.2.2.2.2) (e2 : ∀ q, q ≠ 38 → q ≠ 39 → q ≠ 40 → iv2 q = iv q) (hO : x_sO b L i G.1 = 0) (hC : x_sC b L i G.1 = C) (hE : r_Eq iv2 iv') (h43 : iv' 43 = 0) (hj : j ≤ L) (ht : r_tat iv' b L j) (hje : t_e b L j = (t_st b L i).2)
    (hG : r_G m C.1 C.2.1 C.2.2.1 C.2.2.2.1 (upd gth m 1) (upd ge m (nI n)) (upd gf m (nI p)) (upd gr m (nI r)) gk' gq' gR' gS') (hw : ∀ e, e < C.2.1 → gw' (12 * m + e) = C.2.2.2.2 e) (hw9 : ∀ e, -999 ≤ (C.2.2.2.2 e).toInt ∧ (C.2.2.2.2 e).toInt ≤ 999) (hk : r_kf m gk gq gw gR gS gk' gq' gw' gR' gS') : r_AF b L i G iv iv' (upd gth m 1) (upd ge m (nI n)) (upd gf m (nI p)) (upd gr m (nI r)) gk' gq' gw' gR' gS' sh nv' := by
  unfold r_AF x_stp
  rw [hO, if_neg (fun q => q rfl), if_pos hv, hmt, hC]
  exact ⟨hVn, r_LTm hm hLT hG hw hw9 hk, h43, rp_Tq hU (by rw [hE 47 (by decide) (by decide) (by decide) (by decide) (by decide) (by decide) (by decide)]; exact e2 47 (by decide) (by decide) (by decide)), fun _ => ⟨j, hj, ht, hje⟩, r_E2T (r_E2t e2) (r_E2E hE)⟩
theorem x_w09 : ∀ e : Nat, -999 ≤ ((fun _ => 0 : Nat → Int32) e).toInt ∧ ((fun _ => 0 : Nat → Int32) e).toInt ≤ 999 := fun _ => by show -999 ≤ (0 : Int32).toInt ∧ (0 : Int32).toInt ≤ 999; decide
theorem r_pf37 {post : r_P8} (hL : L ≤ 16384) (hi : i ≤ L) (hV : s_V b L i v tg) (hst : (t_st b L i).1 = true) (hnm : t_nm b L i = true) (hv3 : 3 ≤ v) (hT : r_T go gz) (hVn : r_V nv) (hLT : r_LT G.1 gth ge gf gr gk gq gw gR gS) (h43 : iv 43 = 0) (hU : rp_T iv sh G.2.2.2.2.2.2) (ht : r_tat iv b L i)
    (h : ∀ iv' gs' gp' fr' fc' gm' gth' ge' gf' gr' gk' gq' gw' gR' gS' gl' gsv' nv', r_AF b L i G iv iv' gth' ge' gf' gr' gk' gq' gw' gR' gS' sh nv' → post iv' gs' gp' fr' fc' gm' gth' ge' gf' gr' gk' gq' gw' gR' gS' go gz gc gh gt gi gx b gl' gsv' sh gd nv') :
    w104_wp post iv gs gp fr fc gm gth ge gf gr gk gq gw gR gS go gz gc gh gt gi gx b gl gsv sh gd nv := by
  have hv := t_pvE hV
  obtain ⟨s1, s2, s3, s4, s5, s6, s7⟩ := t_stA hV hst
  obtain ⟨n1, n2⟩ := t_stN hV hst (by omega)
  have eic := t_icE (b := b) (L := L) (i := i) (v := v) (by omega)
  rw [eic] at n1 n2
  have eid := t_idE hV hst (by omega)
  have eia : t_ia b L i = t_e b L (t_iw b L i) := rfl
  rw [eia] at n1 n2 eid
  obtain ⟨y, hy, ey⟩ := t_nmx n1
  have hjy : t_j b L (t_e b L (t_iw b L i)) < L := t_kj (by rw [(t_nmb n1).2.1]; decide)
  have efi : t_pfi b L i = nI y := by
    unfold t_pfi
    rw [hv, if_neg (by omega), eic, eia, ey]
  have eA : x_lt G.1 (t_pfi b L i) = G.1 y := by rw [efi]; exact x_ltI G.1 hy
  refine r_pfM hL hi hV hst hnm ht (fun m iv2 hm hmt hiw hv8 hvb t2 e2 => ?_)
  have hia := (t_el (b := b) hiw).2.1
  have hid1 := (t_el (b := b) hia).2.1
  have x43 : iv2 43 = 0 := by rw [e2 43 (by decide) (by decide) (by decide)]; exact h43
  have epse : v ≠ 6 → x_lt G.1 (t_pse b L i) = none := fun q => by
    unfold t_pse
    rw [hv, if_neg (by omega)]; exact x_ltM _
  have bad1 : G.1 y = none → x_sO b L i G.1 = 1 := fun z => by
    unfold x_sO
    rw [hv, eA]
    exact x_ob1 (by omega) (Or.inl z)
  have eSA : ∀ A, G.1 y = some A → x_sA b L i G.1 = A := fun A z => by
    unfold x_sA
    rw [eA, z]; rfl
  have eC : ∀ A, G.1 y = some A → x_sC b L i G.1 = x_mk1 v (t_pvs b L i) A (x_sB b L i G.1) := fun A z => by
    unfold x_sC x_made
    rw [hv, if_neg (by omega), if_neg (by omega), if_neg (by omega), eSA A z]
  by_cases q45 : v = 4 ∨ v = 5
  · -- delete, contract
    have eid' : t_id b L i v = t_e b L (t_e b L (t_iw b L i)) := by rw [eid, if_neg (by omega)]
    have ert : t_rt b L v (true, t_id b L i v) = t_ns b L false (true, t_e b L (t_e b L (t_iw b L i))) := by
      rw [eid']
      unfold t_rt
      rw [if_neg (by omega), if_neg (by omega), if_pos (by omega)]
    rw [ert] at s5 s6 s7
    obtain ⟨m1, m2, m3⟩ := t_nsE s5
    rw [m3] at s6 s7
    have evs : t_pvs b L i = t_vl (t_it b L false L (t_e b L (t_e b L (t_e b L (t_iw b L i))))) := by
      unfold t_pvs t_vals
      rw [hv, if_neg (by omega), if_neg (by omega), eid']
    have hie : t_e b L (t_lp b L false L (t_e b L (t_e b L (t_e b L (t_iw b L i))))) ≤ L := (t_el (t_lpl L _ (t_el hid1).2.1)).2.1
    have hpl : (t_pvs b L i).length < 2 ^ 31 := t_pvl hL
    have ebd : ∀ n, n ≤ 12 → t_pbad b L i n = !t_rsg (nI n) (t_pvs b L i) (-1) := fun n hn => by
      rw [← t_rsgB hn hpl]
      unfold t_pbad t_bad
      rw [hv, if_neg (by omega), if_neg (by omega), if_neg (by omega), if_pos q45]
    rcases hLT y hy with ⟨z1, z2⟩ | ⟨A, a1, a2, a3, a4⟩
    · refine r_mkMin (p := 0) (n := 0) (r := 0) (g := fun _ => 0) (n' := 0) (U := 0) (k := fun _ => 0) hL hiw hm hT hVn x43 t2 hvb q45 hjy ey hy rfl rfl m2 (Or.inl z1) (fun w => by rw [z1] at w; exact absurd w (by decide)) (fun _ iv' u1 u2 u3 => h _ _ _ _ _ _ _ _ _ _ _ _ _ _ _ _ _ _ (r_mkb hVn hLT hU e2 (bad1 z2) (by decide) u2 u3)) (fun w => ?_) (fun w => ?_)
      · rw [(r_gth1 w).1] at z1; exact t_10 z1
      · rw [(r_gth1 w).1] at z1; exact t_10 z1
    · obtain ⟨g1, g2, g3, g4, g5, g6⟩ := r_gth1 a2
      have hM := (r_GM a2).1
      have eO : x_sO b L i G.1 = if t_pbad b L i A.2.1 = true then 2 else 0 := by
        unfold x_sO
        rw [hv, eA, a1, epse (by omega), x_obS (by omega), if_neg (show ¬ ((v = 17 ∨ v = 18) ∧ ¬ A.1 = 0) from fun q => by omega)]
      have hSl : t_rsg (nI A.2.1) (t_pvs b L i) (-1) = true → t_sts (t_pvs b L i) (t_pvs b L i).length < 2 ^ A.2.1 := fun w => by
        have hb := ebd _ g5
        rw [w] at hb
        exact t_stsl (t_go4 (by rw [hv]; exact q45) g5 hpl hb).2.1 g5 _ (Nat.le_refl _)
      refine r_mkMin (n' := x_n (x_co A.2.1 (t_sts (t_pvs b L i) (t_pvs b L i).length))) (k := x_kf (x_co A.2.1 (t_sts (t_pvs b L i) (t_pvs b L i).length))) (U := x_us v A.1 A.2.1 A.2.2.2.1 (t_sts (t_pvs b L i) (t_pvs b L i).length)) hL hiw hm hT hVn x43 t2 hvb q45 hjy ey hy evs rfl m2 (Or.inr a2) (fun _ w => ⟨hSl w, x_kfp _, rfl, fun q => ?_, fun q => ?_⟩) (fun w => by rw [g1] at w; exact t_10 w) (fun _ w iv' u1 u2 u3 => h _ _ _ _ _ _ _ _ _ _ _ _ _ _ _ _ _ _ (r_mkb hVn hLT hU e2 ?_ (by decide) u2 u3)) (fun _ w iv' gs' gp' fr' fc' gm' gk' gq' gw' gR' gS' nv' u1 u2 u3 u4 u5 u6 u7 => h _ _ _ _ _ _ _ _ _ _ _ _ _ _ _ _ _ _ ?_)
      · unfold x_us
        rw [if_pos q]; exact x_UdR hM (hSl w)
      · unfold x_us
        rw [if_neg (by omega)]; exact x_UcR hM (hSl w)
      · rw [eO, ebd _ g5, w]; rfl
      · refine r_mkd (C := (A.1, x_n (x_co A.2.1 (t_sts (t_pvs b L i) (t_pvs b L i).length)), A.2.2.1 - x_n (x_us v A.1 A.2.1 A.2.2.2.1 (t_sts (t_pvs b L i) (t_pvs b L i).length)), x_fr (x_n (x_co A.2.1 (t_sts (t_pvs b L i) (t_pvs b L i).length))) (x_kf (x_co A.2.1 (t_sts (t_pvs b L i) (t_pvs b L i).length))) (x_us v A.1 A.2.1 A.2.2.2.1 (t_sts (t_pvs b L i) (t_pvs b L i).length)) A.2.2.2.1, fun _ => 0)) hm hmt (by omega) u4 hLT hU e2 ?_ ?_ u2 u3 hie u1 (by rw [s7]) u5 (fun e he => u6 e ?_) x_w09 u7
        · rw [eO, ebd _ g5, w]; rfl
        · rw [eC A a1]
          unfold x_mk1
          rw [if_neg (by omega), if_pos q45]
        · have := x_nle (x_co A.2.1 (t_sts (t_pvs b L i) (t_pvs b L i).length))
          exact Nat.lt_of_lt_of_le he this
  · have ert : t_rt b L v (true, t_id b L i v) = (true, t_id b L i v) := by
      unfold t_rt
      rw [if_neg (by omega), if_neg (by omega), if_neg (by omega)]
    have eend : t_e b L (t_id b L i v) = (t_st b L i).2 := by rw [s7, ert]
    have hpb := t_pbN (b := b) (L := L) (i := i) (by rw [hv]; omega)
    by_cases q6 : v = 6
    · -- sum
      have n2' := n2 (Or.inl q6)
      obtain ⟨z, hz, ez⟩ := t_nmx n2'
      have hjz : t_j b L (t_e b L (t_e b L (t_iw b L i))) < L := t_kj (by rw [(t_nmb n2').2.1]; decide)
      have hid2 := (t_el (b := b) hid1).2.1
      have eid' : t_id b L i v = t_e b L (t_e b L (t_e b L (t_iw b L i))) := by rw [eid, if_pos (Or.inl q6)]
      rw [eid'] at eend
      have eB : x_lt G.1 (t_pse b L i) = G.1 z := by
        unfold t_pse
        rw [hv, if_pos (Or.inl q6), eic, eia, ez]; exact x_ltI G.1 hz
      rw [q6] at hvb
      have no : ∀ why iv', why = 1 → (G.1 y = none ∨ G.1 z = none) → r_Eq iv2 iv' → iv' 43 = why → post iv' gs gp fr fc gm gth ge gf gr gk gq gw gR gS go gz gc gh gt gi gx b gl gsv sh gd nv := fun why iv' hw hc u2 u3 => by
        refine h _ _ _ _ _ _ _ _ _ _ _ _ _ _ _ _ _ _ (r_mkb hVn hLT hU e2 (why := 1) ?_ (by decide) u2 (by rw [u3, hw]))
        unfold x_sO
        rw [hv, eA, eB]
        exact x_ob1 (by omega) (hc.elim Or.inl (fun q => Or.inr ⟨Or.inl q6, q⟩))
      rcases hLT y hy with ⟨z1, z2⟩ | ⟨A, a1, a2, a3, a4⟩
      · have hcy : ∀ (p2 n2 r2 : Nat) (g2 : Nat → Int), (gth z = 0 ∨ r_G z p2 n2 r2 g2 gth ge gf gr gk gq gR gS) → w102_wp (fun v57 v58 v59 v60 v61 v62 v63 v64 v65 v66 v67 v68 v69 v70 v71 v72 v73 v74 v75 v76 v77 => post v57 v58 v59 v60 v61 v62 v63 v64 v65 v66 v67 v68 v69 v70 v71 v72 v73 gc gh gt gi gx v74 v75 v76 sh gd v77) (nI m) iv2 gs gp fr fc gm gth ge gf gr gk gq gw gR gS go gz b gl gsv nv := fun p2 n2 r2 g2 hzz => by
          refine r_mkSum (p := 0) (n := 0) (r := 0) (g := fun _ => 0) (z := z) hL hiw hm hT hVn x43 t2 hvb hjy ey hy hjz ez hz (Or.inl z1) hzz (fun why iv' hc u1 u2 u3 => ?_) (fun w => ?_)
          · rcases hc with ⟨hc, _⟩ | ⟨hc, _⟩
            · exact no why iv' hc (Or.inl z2) u2 u3
            · rw [(r_gth1 hc).1] at z1; exact t_10 z1
          · rw [(r_gth1 w).1] at z1; exact t_10 z1
        rcases hLT z hz with ⟨y1, _⟩ | ⟨B, _, b2, _⟩
        · exact hcy 0 0 0 (fun _ => 0) (Or.inl y1)
        · exact hcy _ _ _ _ (Or.inr b2)
      · rcases hLT z hz with ⟨z1, z2⟩ | ⟨B, b1, b2, b3, b4⟩
        · refine r_mkSum (p2 := 0) (n2 := 0) (r2 := 0) (g2 := fun _ => 0) (z := z) hL hiw hm hT hVn x43 t2 hvb hjy ey hy hjz ez hz (Or.inr a2) (Or.inl z1) (fun why iv' hc u1 u2 u3 => ?_) (fun _ w => ?_)
          · rcases hc with ⟨hc, _⟩ | ⟨_, hc, _⟩
            · exact no why iv' hc (Or.inr z2) u2 u3
            · rw [(r_gth1 hc).1] at z1; exact t_10 z1
          · rw [(r_gth1 w).1] at z1; exact t_10 z1
        · obtain ⟨g1, g2, g3, g4, g5, g6⟩ := r_gth1 a2
          obtain ⟨j1, j2, j3, j4, j5, j6⟩ := r_gth1 b2
          have eO : x_sO b L i G.1 = if 12 < A.2.1 + B.2.1 then 3 else if ¬ A.1 = B.1 then 4 else 0 := by
            unfold x_sO
            rw [hv, eA, a1, eB, b1, x_obD, hpb, if_neg (by decide)]
            by_cases c1 : 12 < A.2.1 + B.2.1
            · rw [if_pos ⟨q6, c1⟩, if_pos c1]
            · rw [if_neg (fun q => c1 q.2), if_neg c1]
              by_cases c2 : ¬ A.1 = B.1
              · rw [if_pos ⟨q6, c2⟩, if_pos c2]
              · rw [if_neg (fun q => c2 q.2), if_neg c2, if_neg (fun q => by omega)]
          refine r_mkSum hL hiw hm hT hVn x43 t2 hvb hjy ey hy hjz ez hz (Or.inr a2) (Or.inr b2) (fun why iv' hc u1 u2 u3 => ?_) (fun _ _ c1 c2 iv' gs' gp' fr' fc' gm' gk' gq' gw' gR' gS' nv' u1 u2 u3 u4 u5 u6 u7 => h _ _ _ _ _ _ _ _ _ _ _ _ _ _ _ _ _ _ ?_)
          · refine h _ _ _ _ _ _ _ _ _ _ _ _ _ _ _ _ _ _ (r_mkb hVn hLT hU e2 (why := why) ?_ ?_ u2 u3)
            · rcases hc with ⟨_, hc⟩ | ⟨_, _, hc⟩
              · rw [g1, j1] at hc; exact hc.elim (fun q => t_10 q) (fun q => t_10 q)
              · rw [eO]
                rcases hc with ⟨c1, c2⟩ | ⟨c1, c2, c3⟩
                · rw [if_pos c2, c1]
                · rw [if_neg (by omega), if_pos c3, c1]
            · rcases hc with ⟨hc, _⟩ | ⟨_, _, hc⟩
              · rw [hc]; decide
              · rcases hc with ⟨c1, _⟩ | ⟨c1, _⟩ <;> rw [c1] <;> decide
          · refine r_mkd (C := (A.1, A.2.1 + B.2.1, A.2.2.1 + B.2.2.1, x_fj A.2.1 B.2.1 A.2.2.2.1 B.2.2.2.1, fun _ => 0)) hm hmt (by omega) u4 hLT hU e2 ?_ ?_ u2 u3 hid2 u1 eend u5 (fun e he => u6 e (Nat.lt_of_lt_of_le he c1)) x_w09 u7
            · rw [eO, if_neg (by omega), if_neg (fun q => q c2)]
            · have eSB : x_sB b L i G.1 = B := by
                unfold x_sB
                rw [eB, b1]; rfl
              rw [eC A a1, eSB]
              unfold x_mk1
              rw [if_neg (by omega), if_neg (by omega), if_pos q6]
    · have eid' : t_id b L i v = t_e b L (t_e b L (t_iw b L i)) := by rw [eid, if_neg (by omega)]
      rw [eid'] at eend
      have good : ∀ A, G.1 y = some A → x_sO b L i G.1 = 0 := fun A a1 => by
        unfold x_sO
        rw [hv, eA, a1, epse q6, x_obS (by omega), hpb, if_neg (by decide), if_neg (fun q => by omega)]
      by_cases q3 : v = 3
      · rw [q3] at hvb
        rcases hLT y hy with ⟨z1, z2⟩ | ⟨A, a1, a2, a3, a4⟩
        · refine r_mkDual (p := 0) (n := 0) (r := 0) (g := fun _ => 0) hL hiw hm hT hVn x43 t2 hvb hjy ey hy (Or.inl z1) (fun _ iv' u1 u2 u3 => h _ _ _ _ _ _ _ _ _ _ _ _ _ _ _ _ _ _ (r_mkb hVn hLT hU e2 (bad1 z2) (by decide) u2 u3)) (fun w => ?_)
          rw [(r_gth1 w).1] at z1; exact t_10 z1
        · obtain ⟨g1, g2, g3, g4, g5, g6⟩ := r_gth1 a2
          refine r_mkDual hL hiw hm hT hVn x43 t2 hvb hjy ey hy (Or.inr a2) (fun w => by rw [g1] at w; exact t_10 w) (fun _ iv' gs' gp' fr' fc' gm' gk' gq' gw' gR' gS' nv' u1 u2 u3 u4 u5 u6 u7 => h _ _ _ _ _ _ _ _ _ _ _ _ _ _ _ _ _ _ ?_)
          refine r_mkd (C := (A.1, A.2.1, A.2.1 - A.2.2.1, x_fd A.2.1 A.2.2.2.1, fun _ => 0)) hm hmt (by omega) u4 hLT hU e2 (good A a1) ?_ u2 u3 hid1 u1 eend u5 (fun e he => u6 e (Nat.lt_of_lt_of_le he g5)) x_w09 u7
          rw [eC A a1]
          unfold x_mk1
          rw [if_pos q3]
      · have q7 : v = 7 := by omega
        rw [q7] at hvb
        rcases hLT y hy with ⟨z1, z2⟩ | ⟨A, a1, a2, a3, a4⟩
        · refine r_mkCopy (p := 0) (n := 0) (r := 0) (g := fun _ => 0) hL hiw hm hT hVn x43 t2 hvb hjy ey hy (Or.inl z1) (fun _ iv' u1 u2 u3 => h _ _ _ _ _ _ _ _ _ _ _ _ _ _ _ _ _ _ (r_mkb hVn hLT hU e2 (bad1 z2) (by decide) u2 u3)) (fun w => ?_)
          rw [(r_gth1 w).1] at z1; exact t_10 z1
        · obtain ⟨g1, g2, g3, g4, g5, g6⟩ := r_gth1 a2
          refine r_mkCopy hL hiw hm hT hVn x43 t2 hvb hjy ey hy (Or.inr a2) (fun w => by rw [g1] at w; exact t_10 w) (fun _ iv' gs' gp' fr' fc' gm' gk' gq' gw' gR' gS' gsv' nv' u1 u2 u3 u4 u5 u6 u7 => h _ _ _ _ _ _ _ _ _ _ _ _ _ _ _ _ _ _ ?_)
          refine r_mkd (C := A) hm hmt (by omega) u4 hLT hU e2 (good A a1) ?_ u2 u3 hid1 u1 eend u5 (fun e he => ?_) a4 u7
          · rw [eC A a1]
            unfold x_mk1
            rw [if_neg (by omega), if_neg (by omega), if_neg (by omega)]
          · rw [u6 e (Nat.lt_of_lt_of_le he g5)]; exact a3 e he
end RPM
