set_option maxHeartbeats 4000000 in
set_option maxRecDepth 100000 in
/-- case 18 of the law -/
theorem px_case18 {p : Program} {e : Env} {s : State} {m : MethodId} {below : List Frame} {meth : Method} {c : Code} {l : Launch} {b : Nat} {xs : Nat → Int32} (C0 : lw_At p s m meth c b 6 xs) {dC : Nat → ClassId} {dI : Nat → Nat → Nat} {de qb qm qe qo qi qw qt qs qp q7 q10 q11 mo rt rc ot : Nat} {cb cm ct cc co : ClassId} {fs : List Value} {H : Heap} {locs : List Loc} {ls : Array Slot} (hK : va_K (dC, dI) vwCl [(cb, .byte), (cm, .object "MatroidDesk$Matroid"), (ct, .boolean), (cc, .byte), (co, .long)] s) (hP : va_P (dC, dI) vwCl [(de, .inr (0, [.ref qb, .int 0, .int (-1), .int 0, .int 0, .null, .ref qm, .ref qe, .ref qo, .ref qi, .ref qw, .ref qt, .ref qs, .ref qp])), (qb, .inl (cb, 512, .inl (fun _ => 0))), (qm, .inl (cm, 26, .inr (.inr (.inr (.inr (fun _ => none)))))), (qt, .inr (5, [.ref q7, .int 0, .int 0, .int 0, .int 0, .int 0])), (qp, .inr (7, [.ref q10, .ref q11, .int 0, .int 0])), (mo, .inr (8, fs)), (rt, .inl (ct, 26, .inl (fun _ => 0))), (rc, .inl (cc, 16384, .inl (fun _ => 0))), (ot, .inl (co, 1, .inr (.inl (fun _ => 0))))] H) (hD : va_D (fun q : Nat => s.heap.size ≤ q) [(de, .inr (0, [.ref qb, .int 0, .int (-1), .int 0, .int 0, .null, .ref qm, .ref qe, .ref qo, .ref qi, .ref qw, .ref qt, .ref qs, .ref qp])), (qb, .inl (cb, 512, .inl (fun _ => 0))), (qm, .inl (cm, 26, .inr (.inr (.inr (.inr (fun _ => none)))))), (qt, .inr (5, [.ref q7, .int 0, .int 0, .int 0, .int 0, .int 0])), (qp, .inr (7, [.ref q10, .ref q11, .int 0, .int 0])), (mo, .inr (8, fs)), (rt, .inl (ct, 26, .inl (fun _ => 0))), (rc, .inl (cc, 16384, .inl (fun _ => 0))), (ot, .inl (co, 1, .inr (.inl (fun _ => 0))))]) (hS : va_S (fun q : Nat => s.heap.size ≤ q) s.heap H locs) (hN : px_N s) (hF : px_mdl fs rt rc) (hl : lv_has ls 7 [(4, .int 0), (3, .ref ot), (2, .ref mo), (1, .ref de), (0, .ref b)]) : W p l e room_1 s m #[Value.ref b] below meth c H locs 460 449508 (lw_Z below #[Value.ref b] s) (F0 m 757 ls []) := by
  obtain ⟨hx, hb, hr, hml, hown, hts, hX, hbl, hlocks, hgv⟩ := id C0
  have hown : s.vm.findClass "MatroidDeskLaw" = some m.cls := hown
  have htw : ∀ w ∈ px_tl, w.before _ s = true := fun w h => hts w (px_tl_in w h)
  have hA : ∀ q : Nat, s.heap.size ≤ q → (fun q : Nat => s.heap.size ≤ q) q := fun _ h => h
  have hbA : ¬ (fun q : Nat => s.heap.size ≤ q) b := Nat.not_le.mpr hbl
  refine lv_aload_n hx hb px_dL_757 rfl (lv_at hl 3 rfl) ?_
  refine lv_aload_n hx hb px_dL_758 rfl (lv_at hl 4 rfl) ?_
  refine lv_iload hx hb px_dL_759 (lv_at hl 0 rfl) ?_
  refine lv_iconst (v := 1) hx hb px_dL_761 (by decide) ?_
  refine lv_iadd hx hb px_dL_762 ?_
  refine lv_topi (nm_r (e' := (1 : Int32)) (by decide +kernel) ?_)
  refine va_sld hx hb hX hbl hbA hS (show vp_in (nI 1) 6 from vp_in_nI (by decide) (by decide)) px_dL_763 ?_
  refine lv_topi (nm_r (e' := xs 1) (congrArg xs (by decide +kernel)) ?_)
  refine lv_aload_n hx hb px_dL_764 rfl (lv_at hl 4 rfl) ?_
  refine lv_iload hx hb px_dL_765 (lv_at hl 0 rfl) ?_
  refine lv_iconst (v := 2) hx hb px_dL_767 (by decide) ?_
  refine lv_iadd hx hb px_dL_768 ?_
  refine lv_topi (nm_r (e' := (2 : Int32)) (by decide +kernel) ?_)
  refine va_sld hx hb hX hbl hbA hS (show vp_in (nI 2) 6 from vp_in_nI (by decide) (by decide)) px_dL_769 ?_
  refine lv_topi (nm_r (e' := xs 2) (congrArg xs (by decide +kernel)) ?_)
  have hPc := hP.sub (ws' := [(de, .inr (0, [.ref qb, .int 0, .int (-1), .int 0, .int 0, .null, .ref qm, .ref qe, .ref qo, .ref qi, .ref qw, .ref qt, .ref qs, .ref qp])), (qm, .inl (cm, 26, .inr (.inr (.inr (.inr (fun _ => none))))))]) [0, 2] rfl
  have hDc := hD.sub (ws' := [(de, .inr (0, [.ref qb, .int 0, .int (-1), .int 0, .int 0, .null, .ref qm, .ref qe, .ref qo, .ref qi, .ref qw, .ref qt, .ref qs, .ref qp])), (qm, .inl (cm, 26, .inr (.inr (.inr (.inr (fun _ => none))))))]) [0, 2] (by decide) rfl
  have hKc := hK.sub (tys' := [(cm, .object "MatroidDesk$Matroid")]) [1] rfl
  have hFc := va_free (wc := [(de, .inr (0, [.ref qb, .int 0, .int (-1), .int 0, .int 0, .null, .ref qm, .ref qe, .ref qo, .ref qi, .ref qw, .ref qt, .ref qs, .ref qp])), (qm, .inl (cm, 26, .inr (.inr (.inr (.inr (fun _ => none))))))]) hD hS hA [0, 2] rfl
  refine va_calli (va_runV (As := [.int (xs 1), .int (xs 2)]) (rest := []) ⟨hx, hb, hml, hown, htw⟩ (px_D_below l dC dI H.size de qb qm qe qo qi qw qt qs qp cm (xs 1) (xs 2)) (cwV 2 htw (px_gvl (List.mem_append_left _ px_v41) (List.mem_append_right _ px_w380) (List.mem_append_right _ px_w381) (List.mem_append_right _ px_w6) (px_gl px_g36)) rfl rfl rfl (by decide +kernel) ⟨Nat.le_of_ble_eq_true rfl, Nat.le_of_ble_eq_true rfl⟩) ⟨fun a U g mk q => by obtain ⟨q0, q1, qP, qK, qD, qN⟩ := q; exact ⟨q0, q1, qP, va_K.moved (u := U) (U := U.calling g mk a) (Vm.Alike.refl U.vm) qK, qD, qN.same rfl⟩, va_recv hK hP (ci := 0) (q0 := 0) rfl rfl, fun U hU hW => ⟨rfl, by rw [hU], by rw [hU]; exact hPc, va_K.moved hW.alike hKc, hDc.weaken (fun _ _ _ _ => trivial), hN.warm hW⟩⟩ rfl rfl hl.1 rfl (lv_room (Nat.le_of_ble_eq_true rfl)) px_dL_770 ⟨(Nat.le_of_ble_eq_true rfl), (Nat.le_of_ble_eq_true rfl)⟩) hS (fun q _ h => hFc q h) hFc (fun r u t H1 locs ht hvm hw_770 hB hz1 hk1 hS => ?_)
  obtain ⟨hP1, hK1, hD1⟩ := hB
  rw [ht] at hP1
  have hK1 := va_K.moved hvm.symm hK1
  obtain ⟨hP, hD⟩ := va_join (wr := [(qb, .inl (cb, 512, .inl (fun _ => 0))), (qt, .inr (5, [.ref q7, .int 0, .int 0, .int 0, .int 0, .int 0])), (qp, .inr (7, [.ref q10, .ref q11, .int 0, .int 0])), (mo, .inr (8, fs)), (rt, .inl (ct, 26, .inl (fun _ => 0))), (rc, .inl (cc, 16384, .inl (fun _ => 0))), (ot, .inl (co, 1, .inr (.inl (fun _ => 0))))]) (w1 := [(de, .inr (0, [.ref qb, .int 0, .int (-1), .int 0, .int 0, .null, .ref qm, .ref qe, .ref qo, .ref qi, .ref qw, .ref qt, .ref qs, .ref qp])), (qm, .inl (cm, 26, .inr (.inr (.inr (.inr (fun _ => none))))))]) hP hD [0, 2] [1, 3, 4, 5, 6, 7, 8] rfl rfl (by decide) (by decide) hk1 hFc hP1 hD1
  generalize H1 = H at hP hS ⊢
  have hP : va_P (dC, dI) vwCl [(qb, .inl (cb, 512, .inl (fun _ => 0))), (qt, .inr (5, [.ref q7, .int 0, .int 0, .int 0, .int 0, .int 0])), (qp, .inr (7, [.ref q10, .ref q11, .int 0, .int 0])), (mo, .inr (8, fs)), (rt, .inl (ct, 26, .inl (fun _ => 0))), (rc, .inl (cc, 16384, .inl (fun _ => 0))), (ot, .inl (co, 1, .inr (.inl (fun _ => 0)))), (de, .inr (0, [.ref qb, .int 0, .int (-1), .int 0, .int 0, .null, .ref qm, .ref qe, .ref qo, .ref qi, .ref qw, .ref qt, .ref qs, .ref qp])), (qm, .inl (cm, 26, .inr (.inr (.inr (.inr (fun _ => none))))))] H := hP
  have hD : va_D (fun q : Nat => s.heap.size ≤ q) [(qb, .inl (cb, 512, .inl (fun _ => 0))), (qt, .inr (5, [.ref q7, .int 0, .int 0, .int 0, .int 0, .int 0])), (qp, .inr (7, [.ref q10, .ref q11, .int 0, .int 0])), (mo, .inr (8, fs)), (rt, .inl (ct, 26, .inl (fun _ => 0))), (rc, .inl (cc, 16384, .inl (fun _ => 0))), (ot, .inl (co, 1, .inr (.inl (fun _ => 0)))), (de, .inr (0, [.ref qb, .int 0, .int (-1), .int 0, .int 0, .null, .ref qm, .ref qe, .ref qo, .ref qi, .ref qw, .ref qt, .ref qs, .ref qp])), (qm, .inl (cm, 26, .inr (.inr (.inr (.inr (fun _ => none))))))] := hD
  subst hw_770
  refine lv_aload_n hx hb px_dL_773 rfl (lv_at hl 2 rfl) ?_
  refine lv_aload_n hx hb px_dL_774 rfl (lv_at hl 4 rfl) ?_
  refine lv_iload hx hb px_dL_775 (lv_at hl 0 rfl) ?_
  refine lv_iconst (v := 1) hx hb px_dL_777 (by decide) ?_
  refine lv_iadd hx hb px_dL_778 ?_
  refine lv_topi (nm_r (e' := (1 : Int32)) (by decide +kernel) ?_)
  refine va_sld hx hb hX hbl hbA hS (show vp_in (nI 1) 6 from vp_in_nI (by decide) (by decide)) px_dL_779 ?_
  refine lv_topi (nm_r (e' := xs 1) (congrArg xs (by decide +kernel)) ?_)
  refine lv_aload_n hx hb px_dL_780 rfl (lv_at hl 4 rfl) ?_
  refine lv_iload hx hb px_dL_781 (lv_at hl 0 rfl) ?_
  refine lv_iconst (v := 2) hx hb px_dL_783 (by decide) ?_
  refine lv_iadd hx hb px_dL_784 ?_
  refine lv_topi (nm_r (e' := (2 : Int32)) (by decide +kernel) ?_)
  refine va_sld hx hb hX hbl hbA hS (show vp_in (nI 2) 6 from vp_in_nI (by decide) (by decide)) px_dL_785 ?_
  refine lv_topi (nm_r (e' := xs 2) (congrArg xs (by decide +kernel)) ?_)
  have hPc := hP.sub (ws' := [(mo, .inr (8, fs)), (rt, .inl (ct, 26, .inl (fun _ => 0)))]) [3, 4] rfl
  have hDc := hD.sub (ws' := [(mo, .inr (8, fs)), (rt, .inl (ct, 26, .inl (fun _ => 0)))]) [3, 4] (by decide) rfl
  have hKc := hK.sub (tys' := [(ct, .boolean)]) [2] rfl
  have hFc := va_free (wc := [(mo, .inr (8, fs)), (rt, .inl (ct, 26, .inl (fun _ => 0)))]) hD hS hA [3, 4] rfl
  refine va_calli (va_runV (As := [.int (xs 1), .int (xs 2)]) (rest := [.int (-1)]) ⟨hx, hb, hml, hown, htw⟩ (px_M_below l dC dI H.size mo fs rt ct (xs 1) (xs 2) hF.1 hF.2.1) (cwV 2 htw (px_gvl (List.mem_append_left _ px_v42) (List.mem_append_right _ px_w483) (List.mem_append_right _ px_w484) (List.mem_append_right _ px_w94) (px_gl px_g65)) rfl rfl rfl (by decide +kernel) ⟨Nat.le_of_ble_eq_true rfl, Nat.le_of_ble_eq_true rfl⟩) ⟨fun a U g mk q => by obtain ⟨q0, q1, qP, qK, qD, qN⟩ := q; exact ⟨q0, q1, qP, va_K.moved (u := U) (U := U.calling g mk a) (Vm.Alike.refl U.vm) qK, qD, qN.same rfl⟩, va_recv hK hP (ci := 8) (q0 := 3) rfl rfl, fun U hU hW => ⟨rfl, by rw [hU], by rw [hU]; exact hPc, va_K.moved hW.alike hKc, hDc.weaken (fun _ _ _ _ => trivial), hN.warm hW⟩⟩ rfl rfl hl.1 rfl (lv_room (Nat.le_of_ble_eq_true rfl)) px_dL_786 ⟨(Nat.le_of_ble_eq_true rfl), (Nat.le_of_ble_eq_true rfl)⟩) hS (fun q _ h => hFc q h) hFc (fun r u t H1 locs ht hvm hw_786 hB hz1 hk1 hS => ?_)
  obtain ⟨hP1, hK1, hD1⟩ := hB
  rw [ht] at hP1
  have hK1 := va_K.moved hvm.symm hK1
  obtain ⟨hP, hD⟩ := va_join (wr := [(qb, .inl (cb, 512, .inl (fun _ => 0))), (qt, .inr (5, [.ref q7, .int 0, .int 0, .int 0, .int 0, .int 0])), (qp, .inr (7, [.ref q10, .ref q11, .int 0, .int 0])), (rc, .inl (cc, 16384, .inl (fun _ => 0))), (ot, .inl (co, 1, .inr (.inl (fun _ => 0)))), (de, .inr (0, [.ref qb, .int 0, .int (-1), .int 0, .int 0, .null, .ref qm, .ref qe, .ref qo, .ref qi, .ref qw, .ref qt, .ref qs, .ref qp])), (qm, .inl (cm, 26, .inr (.inr (.inr (.inr (fun _ => none))))))]) (w1 := []) hP hD [3, 4] [0, 1, 2, 5, 6, 7, 8] rfl rfl (by decide) (by decide) hk1 hFc hP1 hD1
  generalize H1 = H at hP hS ⊢
  have hP : va_P (dC, dI) vwCl [(qb, .inl (cb, 512, .inl (fun _ => 0))), (qt, .inr (5, [.ref q7, .int 0, .int 0, .int 0, .int 0, .int 0])), (qp, .inr (7, [.ref q10, .ref q11, .int 0, .int 0])), (rc, .inl (cc, 16384, .inl (fun _ => 0))), (ot, .inl (co, 1, .inr (.inl (fun _ => 0)))), (de, .inr (0, [.ref qb, .int 0, .int (-1), .int 0, .int 0, .null, .ref qm, .ref qe, .ref qo, .ref qi, .ref qw, .ref qt, .ref qs, .ref qp])), (qm, .inl (cm, 26, .inr (.inr (.inr (.inr (fun _ => none))))))] H := hP
  have hD : va_D (fun q : Nat => s.heap.size ≤ q) [(qb, .inl (cb, 512, .inl (fun _ => 0))), (qt, .inr (5, [.ref q7, .int 0, .int 0, .int 0, .int 0, .int 0])), (qp, .inr (7, [.ref q10, .ref q11, .int 0, .int 0])), (rc, .inl (cc, 16384, .inl (fun _ => 0))), (ot, .inl (co, 1, .inr (.inl (fun _ => 0)))), (de, .inr (0, [.ref qb, .int 0, .int (-1), .int 0, .int 0, .null, .ref qm, .ref qe, .ref qo, .ref qi, .ref qw, .ref qt, .ref qs, .ref qp])), (qm, .inl (cm, 26, .inr (.inr (.inr (.inr (fun _ => none))))))] := hD
  subst hw_786
  refine lv_icmp_eq (tgt := 917) hx hb px_dL_789 (by decide) (fun _ => ?_) (fun h9 => absurd (by decide +kernel) h9)
  exact px_tail C0 (by decide) (by decide) hS (lv_sub hl [0, 4] rfl)
set_option maxHeartbeats 4000000 in
set_option maxRecDepth 100000 in
/-- case 19 of the law -/
theorem px_case19 {p : Program} {e : Env} {s : State} {m : MethodId} {below : List Frame} {meth : Method} {c : Code} {l : Launch} {b : Nat} {xs : Nat → Int32} (C0 : lw_At p s m meth c b 6 xs) {dC : Nat → ClassId} {dI : Nat → Nat → Nat} {de qb qm qe qo qi qw qt qs qp q7 q10 q11 mo rt rc ot : Nat} {cb cm ct cc co : ClassId} {fs : List Value} {H : Heap} {locs : List Loc} {ls : Array Slot} (hK : va_K (dC, dI) vwCl [(cb, .byte), (cm, .object "MatroidDesk$Matroid"), (ct, .boolean), (cc, .byte), (co, .long)] s) (hP : va_P (dC, dI) vwCl [(de, .inr (0, [.ref qb, .int 0, .int (-1), .int 0, .int 0, .null, .ref qm, .ref qe, .ref qo, .ref qi, .ref qw, .ref qt, .ref qs, .ref qp])), (qb, .inl (cb, 512, .inl (fun _ => 0))), (qm, .inl (cm, 26, .inr (.inr (.inr (.inr (fun _ => none)))))), (qt, .inr (5, [.ref q7, .int 0, .int 0, .int 0, .int 0, .int 0])), (qp, .inr (7, [.ref q10, .ref q11, .int 0, .int 0])), (mo, .inr (8, fs)), (rt, .inl (ct, 26, .inl (fun _ => 0))), (rc, .inl (cc, 16384, .inl (fun _ => 0))), (ot, .inl (co, 1, .inr (.inl (fun _ => 0))))] H) (hD : va_D (fun q : Nat => s.heap.size ≤ q) [(de, .inr (0, [.ref qb, .int 0, .int (-1), .int 0, .int 0, .null, .ref qm, .ref qe, .ref qo, .ref qi, .ref qw, .ref qt, .ref qs, .ref qp])), (qb, .inl (cb, 512, .inl (fun _ => 0))), (qm, .inl (cm, 26, .inr (.inr (.inr (.inr (fun _ => none)))))), (qt, .inr (5, [.ref q7, .int 0, .int 0, .int 0, .int 0, .int 0])), (qp, .inr (7, [.ref q10, .ref q11, .int 0, .int 0])), (mo, .inr (8, fs)), (rt, .inl (ct, 26, .inl (fun _ => 0))), (rc, .inl (cc, 16384, .inl (fun _ => 0))), (ot, .inl (co, 1, .inr (.inl (fun _ => 0))))]) (hS : va_S (fun q : Nat => s.heap.size ≤ q) s.heap H locs) (hN : px_N s) (hF : px_mdl fs rt rc) (hl : lv_has ls 7 [(4, .int 0), (3, .ref ot), (2, .ref mo), (1, .ref de), (0, .ref b)]) : W p l e room_1 s m #[Value.ref b] below meth c H locs 460 449508 (lw_Z below #[Value.ref b] s) (F0 m 794 ls []) := by
  obtain ⟨hx, hb, hr, hml, hown, hts, hX, hbl, hlocks, hgv⟩ := id C0
  have hown : s.vm.findClass "MatroidDeskLaw" = some m.cls := hown
  have htw : ∀ w ∈ px_tl, w.before _ s = true := fun w h => hts w (px_tl_in w h)
  have hA : ∀ q : Nat, s.heap.size ≤ q → (fun q : Nat => s.heap.size ≤ q) q := fun _ h => h
  have hbA : ¬ (fun q : Nat => s.heap.size ≤ q) b := Nat.not_le.mpr hbl
  refine lv_aload_n hx hb px_dL_794 rfl (lv_at hl 3 rfl) ?_
  refine lv_aload_n hx hb px_dL_795 rfl (lv_at hl 4 rfl) ?_
  refine lv_iload hx hb px_dL_796 (lv_at hl 0 rfl) ?_
  refine lv_iconst (v := 1) hx hb px_dL_798 (by decide) ?_
  refine lv_iadd hx hb px_dL_799 ?_
  refine lv_topi (nm_r (e' := (1 : Int32)) (by decide +kernel) ?_)
  refine va_sld hx hb hX hbl hbA hS (show vp_in (nI 1) 6 from vp_in_nI (by decide) (by decide)) px_dL_800 ?_
  refine lv_topi (nm_r (e' := xs 1) (congrArg xs (by decide +kernel)) ?_)
  refine lv_aload_n hx hb px_dL_801 rfl (lv_at hl 4 rfl) ?_
  refine lv_iload hx hb px_dL_802 (lv_at hl 0 rfl) ?_
  refine lv_iconst (v := 2) hx hb px_dL_804 (by decide) ?_
  refine lv_iadd hx hb px_dL_805 ?_
  refine lv_topi (nm_r (e' := (2 : Int32)) (by decide +kernel) ?_)
  refine va_sld hx hb hX hbl hbA hS (show vp_in (nI 2) 6 from vp_in_nI (by decide) (by decide)) px_dL_806 ?_
  refine lv_topi (nm_r (e' := xs 2) (congrArg xs (by decide +kernel)) ?_)
  have hPc := hP.sub (ws' := [(de, .inr (0, [.ref qb, .int 0, .int (-1), .int 0, .int 0, .null, .ref qm, .ref qe, .ref qo, .ref qi, .ref qw, .ref qt, .ref qs, .ref qp])), (qm, .inl (cm, 26, .inr (.inr (.inr (.inr (fun _ => none))))))]) [0, 2] rfl
  have hDc := hD.sub (ws' := [(de, .inr (0, [.ref qb, .int 0, .int (-1), .int 0, .int 0, .null, .ref qm, .ref qe, .ref qo, .ref qi, .ref qw, .ref qt, .ref qs, .ref qp])), (qm, .inl (cm, 26, .inr (.inr (.inr (.inr (fun _ => none))))))]) [0, 2] (by decide) rfl
  have hKc := hK.sub (tys' := [(cm, .object "MatroidDesk$Matroid")]) [1] rfl
  have hFc := va_free (wc := [(de, .inr (0, [.ref qb, .int 0, .int (-1), .int 0, .int 0, .null, .ref qm, .ref qe, .ref qo, .ref qi, .ref qw, .ref qt, .ref qs, .ref qp])), (qm, .inl (cm, 26, .inr (.inr (.inr (.inr (fun _ => none))))))]) hD hS hA [0, 2] rfl
  refine va_calli (va_runV (As := [.int (xs 1), .int (xs 2)]) (rest := []) ⟨hx, hb, hml, hown, htw⟩ (px_D_contracted l dC dI H.size de qb qm qe qo qi qw qt qs qp cm (xs 1) (xs 2)) (cwV 2 htw (px_gvl (List.mem_append_left _ px_v43) (List.mem_append_right _ px_w386) (List.mem_append_right _ px_w387) (List.mem_append_right _ px_w6) (px_gl px_g38)) rfl rfl rfl (by decide +kernel) ⟨Nat.le_of_ble_eq_true rfl, Nat.le_of_ble_eq_true rfl⟩) ⟨fun a U g mk q => by obtain ⟨q0, q1, qP, qK, qD, qN⟩ := q; exact ⟨q0, q1, qP, va_K.moved (u := U) (U := U.calling g mk a) (Vm.Alike.refl U.vm) qK, qD, qN.same rfl⟩, va_recv hK hP (ci := 0) (q0 := 0) rfl rfl, fun U hU hW => ⟨rfl, by rw [hU], by rw [hU]; exact hPc, va_K.moved hW.alike hKc, hDc.weaken (fun _ _ _ _ => trivial), hN.warm hW⟩⟩ rfl rfl hl.1 rfl (lv_room (Nat.le_of_ble_eq_true rfl)) px_dL_807 ⟨(Nat.le_of_ble_eq_true rfl), (Nat.le_of_ble_eq_true rfl)⟩) hS (fun q _ h => hFc q h) hFc (fun r u t H1 locs ht hvm hw_807 hB hz1 hk1 hS => ?_)
  obtain ⟨hP1, hK1, hD1⟩ := hB
  rw [ht] at hP1
  have hK1 := va_K.moved hvm.symm hK1
  obtain ⟨hP, hD⟩ := va_join (wr := [(qb, .inl (cb, 512, .inl (fun _ => 0))), (qt, .inr (5, [.ref q7, .int 0, .int 0, .int 0, .int 0, .int 0])), (qp, .inr (7, [.ref q10, .ref q11, .int 0, .int 0])), (mo, .inr (8, fs)), (rt, .inl (ct, 26, .inl (fun _ => 0))), (rc, .inl (cc, 16384, .inl (fun _ => 0))), (ot, .inl (co, 1, .inr (.inl (fun _ => 0))))]) (w1 := [(de, .inr (0, [.ref qb, .int 0, .int (-1), .int 0, .int 0, .null, .ref qm, .ref qe, .ref qo, .ref qi, .ref qw, .ref qt, .ref qs, .ref qp])), (qm, .inl (cm, 26, .inr (.inr (.inr (.inr (fun _ => none))))))]) hP hD [0, 2] [1, 3, 4, 5, 6, 7, 8] rfl rfl (by decide) (by decide) hk1 hFc hP1 hD1
  generalize H1 = H at hP hS ⊢
  have hP : va_P (dC, dI) vwCl [(qb, .inl (cb, 512, .inl (fun _ => 0))), (qt, .inr (5, [.ref q7, .int 0, .int 0, .int 0, .int 0, .int 0])), (qp, .inr (7, [.ref q10, .ref q11, .int 0, .int 0])), (mo, .inr (8, fs)), (rt, .inl (ct, 26, .inl (fun _ => 0))), (rc, .inl (cc, 16384, .inl (fun _ => 0))), (ot, .inl (co, 1, .inr (.inl (fun _ => 0)))), (de, .inr (0, [.ref qb, .int 0, .int (-1), .int 0, .int 0, .null, .ref qm, .ref qe, .ref qo, .ref qi, .ref qw, .ref qt, .ref qs, .ref qp])), (qm, .inl (cm, 26, .inr (.inr (.inr (.inr (fun _ => none))))))] H := hP
  have hD : va_D (fun q : Nat => s.heap.size ≤ q) [(qb, .inl (cb, 512, .inl (fun _ => 0))), (qt, .inr (5, [.ref q7, .int 0, .int 0, .int 0, .int 0, .int 0])), (qp, .inr (7, [.ref q10, .ref q11, .int 0, .int 0])), (mo, .inr (8, fs)), (rt, .inl (ct, 26, .inl (fun _ => 0))), (rc, .inl (cc, 16384, .inl (fun _ => 0))), (ot, .inl (co, 1, .inr (.inl (fun _ => 0)))), (de, .inr (0, [.ref qb, .int 0, .int (-1), .int 0, .int 0, .null, .ref qm, .ref qe, .ref qo, .ref qi, .ref qw, .ref qt, .ref qs, .ref qp])), (qm, .inl (cm, 26, .inr (.inr (.inr (.inr (fun _ => none))))))] := hD
  subst hw_807
  refine lv_aload_n hx hb px_dL_810 rfl (lv_at hl 2 rfl) ?_
  refine lv_aload_n hx hb px_dL_811 rfl (lv_at hl 4 rfl) ?_
  refine lv_iload hx hb px_dL_812 (lv_at hl 0 rfl) ?_
  refine lv_iconst (v := 1) hx hb px_dL_814 (by decide) ?_
  refine lv_iadd hx hb px_dL_815 ?_
  refine lv_topi (nm_r (e' := (1 : Int32)) (by decide +kernel) ?_)
  refine va_sld hx hb hX hbl hbA hS (show vp_in (nI 1) 6 from vp_in_nI (by decide) (by decide)) px_dL_816 ?_
  refine lv_topi (nm_r (e' := xs 1) (congrArg xs (by decide +kernel)) ?_)
  refine lv_aload_n hx hb px_dL_817 rfl (lv_at hl 4 rfl) ?_
  refine lv_iload hx hb px_dL_818 (lv_at hl 0 rfl) ?_
  refine lv_iconst (v := 2) hx hb px_dL_820 (by decide) ?_
  refine lv_iadd hx hb px_dL_821 ?_
  refine lv_topi (nm_r (e' := (2 : Int32)) (by decide +kernel) ?_)
  refine va_sld hx hb hX hbl hbA hS (show vp_in (nI 2) 6 from vp_in_nI (by decide) (by decide)) px_dL_822 ?_
  refine lv_topi (nm_r (e' := xs 2) (congrArg xs (by decide +kernel)) ?_)
  have hPc := hP.sub (ws' := [(mo, .inr (8, fs)), (rt, .inl (ct, 26, .inl (fun _ => 0)))]) [3, 4] rfl
  have hDc := hD.sub (ws' := [(mo, .inr (8, fs)), (rt, .inl (ct, 26, .inl (fun _ => 0)))]) [3, 4] (by decide) rfl
  have hKc := hK.sub (tys' := [(ct, .boolean)]) [2] rfl
  have hFc := va_free (wc := [(mo, .inr (8, fs)), (rt, .inl (ct, 26, .inl (fun _ => 0)))]) hD hS hA [3, 4] rfl
  refine va_calli (va_runV (As := [.int (xs 1), .int (xs 2)]) (rest := [.int (-1)]) ⟨hx, hb, hml, hown, htw⟩ (px_M_contracted l dC dI H.size mo fs rt ct (xs 1) (xs 2) hF.1 hF.2.1) (cwV 2 htw (px_gvl (List.mem_append_left _ px_v44) (List.mem_append_right _ px_w486) (List.mem_append_right _ px_w487) (List.mem_append_right _ px_w94) (px_gl px_g66)) rfl rfl rfl (by decide +kernel) ⟨Nat.le_of_ble_eq_true rfl, Nat.le_of_ble_eq_true rfl⟩) ⟨fun a U g mk q => by obtain ⟨q0, q1, qP, qK, qD, qN⟩ := q; exact ⟨q0, q1, qP, va_K.moved (u := U) (U := U.calling g mk a) (Vm.Alike.refl U.vm) qK, qD, qN.same rfl⟩, va_recv hK hP (ci := 8) (q0 := 3) rfl rfl, fun U hU hW => ⟨rfl, by rw [hU], by rw [hU]; exact hPc, va_K.moved hW.alike hKc, hDc.weaken (fun _ _ _ _ => trivial), hN.warm hW⟩⟩ rfl rfl hl.1 rfl (lv_room (Nat.le_of_ble_eq_true rfl)) px_dL_823 ⟨(Nat.le_of_ble_eq_true rfl), (Nat.le_of_ble_eq_true rfl)⟩) hS (fun q _ h => hFc q h) hFc (fun r u t H1 locs ht hvm hw_823 hB hz1 hk1 hS => ?_)
  obtain ⟨hP1, hK1, hD1⟩ := hB
  rw [ht] at hP1
  have hK1 := va_K.moved hvm.symm hK1
  obtain ⟨hP, hD⟩ := va_join (wr := [(qb, .inl (cb, 512, .inl (fun _ => 0))), (qt, .inr (5, [.ref q7, .int 0, .int 0, .int 0, .int 0, .int 0])), (qp, .inr (7, [.ref q10, .ref q11, .int 0, .int 0])), (rc, .inl (cc, 16384, .inl (fun _ => 0))), (ot, .inl (co, 1, .inr (.inl (fun _ => 0)))), (de, .inr (0, [.ref qb, .int 0, .int (-1), .int 0, .int 0, .null, .ref qm, .ref qe, .ref qo, .ref qi, .ref qw, .ref qt, .ref qs, .ref qp])), (qm, .inl (cm, 26, .inr (.inr (.inr (.inr (fun _ => none))))))]) (w1 := []) hP hD [3, 4] [0, 1, 2, 5, 6, 7, 8] rfl rfl (by decide) (by decide) hk1 hFc hP1 hD1
  generalize H1 = H at hP hS ⊢
  have hP : va_P (dC, dI) vwCl [(qb, .inl (cb, 512, .inl (fun _ => 0))), (qt, .inr (5, [.ref q7, .int 0, .int 0, .int 0, .int 0, .int 0])), (qp, .inr (7, [.ref q10, .ref q11, .int 0, .int 0])), (rc, .inl (cc, 16384, .inl (fun _ => 0))), (ot, .inl (co, 1, .inr (.inl (fun _ => 0)))), (de, .inr (0, [.ref qb, .int 0, .int (-1), .int 0, .int 0, .null, .ref qm, .ref qe, .ref qo, .ref qi, .ref qw, .ref qt, .ref qs, .ref qp])), (qm, .inl (cm, 26, .inr (.inr (.inr (.inr (fun _ => none))))))] H := hP
  have hD : va_D (fun q : Nat => s.heap.size ≤ q) [(qb, .inl (cb, 512, .inl (fun _ => 0))), (qt, .inr (5, [.ref q7, .int 0, .int 0, .int 0, .int 0, .int 0])), (qp, .inr (7, [.ref q10, .ref q11, .int 0, .int 0])), (rc, .inl (cc, 16384, .inl (fun _ => 0))), (ot, .inl (co, 1, .inr (.inl (fun _ => 0)))), (de, .inr (0, [.ref qb, .int 0, .int (-1), .int 0, .int 0, .null, .ref qm, .ref qe, .ref qo, .ref qi, .ref qw, .ref qt, .ref qs, .ref qp])), (qm, .inl (cm, 26, .inr (.inr (.inr (.inr (fun _ => none))))))] := hD
  subst hw_823
  refine lv_icmp_eq (tgt := 917) hx hb px_dL_826 (by decide) (fun _ => ?_) (fun h9 => absurd (by decide +kernel) h9)
  exact px_tail C0 (by decide) (by decide) hS (lv_sub hl [0, 4] rfl)
set_option maxHeartbeats 4000000 in
set_option maxRecDepth 100000 in
/-- case 20 of the law -/
theorem px_case20 {p : Program} {e : Env} {s : State} {m : MethodId} {below : List Frame} {meth : Method} {c : Code} {l : Launch} {b : Nat} {xs : Nat → Int32} (C0 : lw_At p s m meth c b 6 xs) {dC : Nat → ClassId} {dI : Nat → Nat → Nat} {de qb qm qe qo qi qw qt qs qp q7 q10 q11 mo rt rc ot : Nat} {cb cm ct cc co : ClassId} {fs : List Value} {H : Heap} {locs : List Loc} {ls : Array Slot} (hK : va_K (dC, dI) vwCl [(cb, .byte), (cm, .object "MatroidDesk$Matroid"), (ct, .boolean), (cc, .byte), (co, .long)] s) (hP : va_P (dC, dI) vwCl [(de, .inr (0, [.ref qb, .int 0, .int (-1), .int 0, .int 0, .null, .ref qm, .ref qe, .ref qo, .ref qi, .ref qw, .ref qt, .ref qs, .ref qp])), (qb, .inl (cb, 512, .inl (fun _ => 0))), (qm, .inl (cm, 26, .inr (.inr (.inr (.inr (fun _ => none)))))), (qt, .inr (5, [.ref q7, .int 0, .int 0, .int 0, .int 0, .int 0])), (qp, .inr (7, [.ref q10, .ref q11, .int 0, .int 0])), (mo, .inr (8, fs)), (rt, .inl (ct, 26, .inl (fun _ => 0))), (rc, .inl (cc, 16384, .inl (fun _ => 0))), (ot, .inl (co, 1, .inr (.inl (fun _ => 0))))] H) (hD : va_D (fun q : Nat => s.heap.size ≤ q) [(de, .inr (0, [.ref qb, .int 0, .int (-1), .int 0, .int 0, .null, .ref qm, .ref qe, .ref qo, .ref qi, .ref qw, .ref qt, .ref qs, .ref qp])), (qb, .inl (cb, 512, .inl (fun _ => 0))), (qm, .inl (cm, 26, .inr (.inr (.inr (.inr (fun _ => none)))))), (qt, .inr (5, [.ref q7, .int 0, .int 0, .int 0, .int 0, .int 0])), (qp, .inr (7, [.ref q10, .ref q11, .int 0, .int 0])), (mo, .inr (8, fs)), (rt, .inl (ct, 26, .inl (fun _ => 0))), (rc, .inl (cc, 16384, .inl (fun _ => 0))), (ot, .inl (co, 1, .inr (.inl (fun _ => 0))))]) (hS : va_S (fun q : Nat => s.heap.size ≤ q) s.heap H locs) (hN : px_N s) (hF : px_mdl fs rt rc) (hl : lv_has ls 7 [(4, .int 0), (3, .ref ot), (2, .ref mo), (1, .ref de), (0, .ref b)]) : W p l e room_1 s m #[Value.ref b] below meth c H locs 460 449508 (lw_Z below #[Value.ref b] s) (F0 m 831 ls []) := by
  obtain ⟨hx, hb, hr, hml, hown, hts, hX, hbl, hlocks, hgv⟩ := id C0
  have hown : s.vm.findClass "MatroidDeskLaw" = some m.cls := hown
  have htw : ∀ w ∈ px_tl, w.before _ s = true := fun w h => hts w (px_tl_in w h)
  have hA : ∀ q : Nat, s.heap.size ≤ q → (fun q : Nat => s.heap.size ≤ q) q := fun _ h => h
  have hbA : ¬ (fun q : Nat => s.heap.size ≤ q) b := Nat.not_le.mpr hbl
  refine lv_aload_n hx hb px_dL_831 rfl (lv_at hl 3 rfl) ?_
  refine lv_aload_n hx hb px_dL_832 rfl (lv_at hl 4 rfl) ?_
  refine lv_iload hx hb px_dL_833 (lv_at hl 0 rfl) ?_
  refine lv_iconst (v := 1) hx hb px_dL_835 (by decide) ?_
  refine lv_iadd hx hb px_dL_836 ?_
  refine lv_topi (nm_r (e' := (1 : Int32)) (by decide +kernel) ?_)
  refine va_sld hx hb hX hbl hbA hS (show vp_in (nI 1) 6 from vp_in_nI (by decide) (by decide)) px_dL_837 ?_
  refine lv_topi (nm_r (e' := xs 1) (congrArg xs (by decide +kernel)) ?_)
  refine lv_aload_n hx hb px_dL_838 rfl (lv_at hl 4 rfl) ?_
  refine lv_iload hx hb px_dL_839 (lv_at hl 0 rfl) ?_
  refine lv_iconst (v := 2) hx hb px_dL_841 (by decide) ?_
  refine lv_iadd hx hb px_dL_842 ?_
  refine lv_topi (nm_r (e' := (2 : Int32)) (by decide +kernel) ?_)
  refine va_sld hx hb hX hbl hbA hS (show vp_in (nI 2) 6 from vp_in_nI (by decide) (by decide)) px_dL_843 ?_
  refine lv_topi (nm_r (e' := xs 2) (congrArg xs (by decide +kernel)) ?_)
  have hPc := hP.sub (ws' := [(de, .inr (0, [.ref qb, .int 0, .int (-1), .int 0, .int 0, .null, .ref qm, .ref qe, .ref qo, .ref qi, .ref qw, .ref qt, .ref qs, .ref qp])), (qm, .inl (cm, 26, .inr (.inr (.inr (.inr (fun _ => none))))))]) [0, 2] rfl
  have hDc := hD.sub (ws' := [(de, .inr (0, [.ref qb, .int 0, .int (-1), .int 0, .int 0, .null, .ref qm, .ref qe, .ref qo, .ref qi, .ref qw, .ref qt, .ref qs, .ref qp])), (qm, .inl (cm, 26, .inr (.inr (.inr (.inr (fun _ => none))))))]) [0, 2] (by decide) rfl
  have hKc := hK.sub (tys' := [(cm, .object "MatroidDesk$Matroid")]) [1] rfl
  have hFc := va_free (wc := [(de, .inr (0, [.ref qb, .int 0, .int (-1), .int 0, .int 0, .null, .ref qm, .ref qe, .ref qo, .ref qi, .ref qw, .ref qt, .ref qs, .ref qp])), (qm, .inl (cm, 26, .inr (.inr (.inr (.inr (fun _ => none))))))]) hD hS hA [0, 2] rfl
  refine va_calli (va_runV (As := [.int (xs 1), .int (xs 2)]) (rest := []) ⟨hx, hb, hml, hown, htw⟩ (px_D_deleted l dC dI H.size de qb qm qe qo qi qw qt qs qp cm (xs 1) (xs 2)) (cwV 2 htw (px_gvl (List.mem_append_left _ px_v45) (List.mem_append_right _ px_w390) (List.mem_append_right _ px_w391) (List.mem_append_right _ px_w6) (px_gl px_g39)) rfl rfl rfl (by decide +kernel) ⟨Nat.le_of_ble_eq_true rfl, Nat.le_of_ble_eq_true rfl⟩) ⟨fun a U g mk q => by obtain ⟨q0, q1, qP, qK, qD, qN⟩ := q; exact ⟨q0, q1, qP, va_K.moved (u := U) (U := U.calling g mk a) (Vm.Alike.refl U.vm) qK, qD, qN.same rfl⟩, va_recv hK hP (ci := 0) (q0 := 0) rfl rfl, fun U hU hW => ⟨rfl, by rw [hU], by rw [hU]; exact hPc, va_K.moved hW.alike hKc, hDc.weaken (fun _ _ _ _ => trivial), hN.warm hW⟩⟩ rfl rfl hl.1 rfl (lv_room (Nat.le_of_ble_eq_true rfl)) px_dL_844 ⟨(Nat.le_of_ble_eq_true rfl), (Nat.le_of_ble_eq_true rfl)⟩) hS (fun q _ h => hFc q h) hFc (fun r u t H1 locs ht hvm hw_844 hB hz1 hk1 hS => ?_)
  obtain ⟨hP1, hK1, hD1⟩ := hB
  rw [ht] at hP1
  have hK1 := va_K.moved hvm.symm hK1
  obtain ⟨hP, hD⟩ := va_join (wr := [(qb, .inl (cb, 512, .inl (fun _ => 0))), (qt, .inr (5, [.ref q7, .int 0, .int 0, .int 0, .int 0, .int 0])), (qp, .inr (7, [.ref q10, .ref q11, .int 0, .int 0])), (mo, .inr (8, fs)), (rt, .inl (ct, 26, .inl (fun _ => 0))), (rc, .inl (cc, 16384, .inl (fun _ => 0))), (ot, .inl (co, 1, .inr (.inl (fun _ => 0))))]) (w1 := [(de, .inr (0, [.ref qb, .int 0, .int (-1), .int 0, .int 0, .null, .ref qm, .ref qe, .ref qo, .ref qi, .ref qw, .ref qt, .ref qs, .ref qp])), (qm, .inl (cm, 26, .inr (.inr (.inr (.inr (fun _ => none))))))]) hP hD [0, 2] [1, 3, 4, 5, 6, 7, 8] rfl rfl (by decide) (by decide) hk1 hFc hP1 hD1
  generalize H1 = H at hP hS ⊢
  have hP : va_P (dC, dI) vwCl [(qb, .inl (cb, 512, .inl (fun _ => 0))), (qt, .inr (5, [.ref q7, .int 0, .int 0, .int 0, .int 0, .int 0])), (qp, .inr (7, [.ref q10, .ref q11, .int 0, .int 0])), (mo, .inr (8, fs)), (rt, .inl (ct, 26, .inl (fun _ => 0))), (rc, .inl (cc, 16384, .inl (fun _ => 0))), (ot, .inl (co, 1, .inr (.inl (fun _ => 0)))), (de, .inr (0, [.ref qb, .int 0, .int (-1), .int 0, .int 0, .null, .ref qm, .ref qe, .ref qo, .ref qi, .ref qw, .ref qt, .ref qs, .ref qp])), (qm, .inl (cm, 26, .inr (.inr (.inr (.inr (fun _ => none))))))] H := hP
  have hD : va_D (fun q : Nat => s.heap.size ≤ q) [(qb, .inl (cb, 512, .inl (fun _ => 0))), (qt, .inr (5, [.ref q7, .int 0, .int 0, .int 0, .int 0, .int 0])), (qp, .inr (7, [.ref q10, .ref q11, .int 0, .int 0])), (mo, .inr (8, fs)), (rt, .inl (ct, 26, .inl (fun _ => 0))), (rc, .inl (cc, 16384, .inl (fun _ => 0))), (ot, .inl (co, 1, .inr (.inl (fun _ => 0)))), (de, .inr (0, [.ref qb, .int 0, .int (-1), .int 0, .int 0, .null, .ref qm, .ref qe, .ref qo, .ref qi, .ref qw, .ref qt, .ref qs, .ref qp])), (qm, .inl (cm, 26, .inr (.inr (.inr (.inr (fun _ => none))))))] := hD
  subst hw_844
  refine lv_aload_n hx hb px_dL_847 rfl (lv_at hl 2 rfl) ?_
  refine lv_aload_n hx hb px_dL_848 rfl (lv_at hl 4 rfl) ?_
  refine lv_iload hx hb px_dL_849 (lv_at hl 0 rfl) ?_
  refine lv_iconst (v := 1) hx hb px_dL_851 (by decide) ?_
  refine lv_iadd hx hb px_dL_852 ?_
  refine lv_topi (nm_r (e' := (1 : Int32)) (by decide +kernel) ?_)
  refine va_sld hx hb hX hbl hbA hS (show vp_in (nI 1) 6 from vp_in_nI (by decide) (by decide)) px_dL_853 ?_
  refine lv_topi (nm_r (e' := xs 1) (congrArg xs (by decide +kernel)) ?_)
  refine lv_aload_n hx hb px_dL_854 rfl (lv_at hl 4 rfl) ?_
  refine lv_iload hx hb px_dL_855 (lv_at hl 0 rfl) ?_
  refine lv_iconst (v := 2) hx hb px_dL_857 (by decide) ?_
  refine lv_iadd hx hb px_dL_858 ?_
  refine lv_topi (nm_r (e' := (2 : Int32)) (by decide +kernel) ?_)
  refine va_sld hx hb hX hbl hbA hS (show vp_in (nI 2) 6 from vp_in_nI (by decide) (by decide)) px_dL_859 ?_
  refine lv_topi (nm_r (e' := xs 2) (congrArg xs (by decide +kernel)) ?_)
  have hPc := hP.sub (ws' := [(mo, .inr (8, fs)), (rt, .inl (ct, 26, .inl (fun _ => 0)))]) [3, 4] rfl
  have hDc := hD.sub (ws' := [(mo, .inr (8, fs)), (rt, .inl (ct, 26, .inl (fun _ => 0)))]) [3, 4] (by decide) rfl
  have hKc := hK.sub (tys' := [(ct, .boolean)]) [2] rfl
  have hFc := va_free (wc := [(mo, .inr (8, fs)), (rt, .inl (ct, 26, .inl (fun _ => 0)))]) hD hS hA [3, 4] rfl
  refine va_calli (va_runV (As := [.int (xs 1), .int (xs 2)]) (rest := [.int (-1)]) ⟨hx, hb, hml, hown, htw⟩ (px_M_deleted l dC dI H.size mo fs rt ct (xs 1) (xs 2) hF.1 hF.2.1) (cwV 2 htw (px_gvl (List.mem_append_left _ px_v46) (List.mem_append_right _ px_w490) (List.mem_append_right _ px_w491) (List.mem_append_right _ px_w94) (px_gl px_g67)) rfl rfl rfl (by decide +kernel) ⟨Nat.le_of_ble_eq_true rfl, Nat.le_of_ble_eq_true rfl⟩) ⟨fun a U g mk q => by obtain ⟨q0, q1, qP, qK, qD, qN⟩ := q; exact ⟨q0, q1, qP, va_K.moved (u := U) (U := U.calling g mk a) (Vm.Alike.refl U.vm) qK, qD, qN.same rfl⟩, va_recv hK hP (ci := 8) (q0 := 3) rfl rfl, fun U hU hW => ⟨rfl, by rw [hU], by rw [hU]; exact hPc, va_K.moved hW.alike hKc, hDc.weaken (fun _ _ _ _ => trivial), hN.warm hW⟩⟩ rfl rfl hl.1 rfl (lv_room (Nat.le_of_ble_eq_true rfl)) px_dL_860 ⟨(Nat.le_of_ble_eq_true rfl), (Nat.le_of_ble_eq_true rfl)⟩) hS (fun q _ h => hFc q h) hFc (fun r u t H1 locs ht hvm hw_860 hB hz1 hk1 hS => ?_)
  obtain ⟨hP1, hK1, hD1⟩ := hB
  rw [ht] at hP1
  have hK1 := va_K.moved hvm.symm hK1
  obtain ⟨hP, hD⟩ := va_join (wr := [(qb, .inl (cb, 512, .inl (fun _ => 0))), (qt, .inr (5, [.ref q7, .int 0, .int 0, .int 0, .int 0, .int 0])), (qp, .inr (7, [.ref q10, .ref q11, .int 0, .int 0])), (rc, .inl (cc, 16384, .inl (fun _ => 0))), (ot, .inl (co, 1, .inr (.inl (fun _ => 0)))), (de, .inr (0, [.ref qb, .int 0, .int (-1), .int 0, .int 0, .null, .ref qm, .ref qe, .ref qo, .ref qi, .ref qw, .ref qt, .ref qs, .ref qp])), (qm, .inl (cm, 26, .inr (.inr (.inr (.inr (fun _ => none))))))]) (w1 := []) hP hD [3, 4] [0, 1, 2, 5, 6, 7, 8] rfl rfl (by decide) (by decide) hk1 hFc hP1 hD1
  generalize H1 = H at hP hS ⊢
  have hP : va_P (dC, dI) vwCl [(qb, .inl (cb, 512, .inl (fun _ => 0))), (qt, .inr (5, [.ref q7, .int 0, .int 0, .int 0, .int 0, .int 0])), (qp, .inr (7, [.ref q10, .ref q11, .int 0, .int 0])), (rc, .inl (cc, 16384, .inl (fun _ => 0))), (ot, .inl (co, 1, .inr (.inl (fun _ => 0)))), (de, .inr (0, [.ref qb, .int 0, .int (-1), .int 0, .int 0, .null, .ref qm, .ref qe, .ref qo, .ref qi, .ref qw, .ref qt, .ref qs, .ref qp])), (qm, .inl (cm, 26, .inr (.inr (.inr (.inr (fun _ => none))))))] H := hP
  have hD : va_D (fun q : Nat => s.heap.size ≤ q) [(qb, .inl (cb, 512, .inl (fun _ => 0))), (qt, .inr (5, [.ref q7, .int 0, .int 0, .int 0, .int 0, .int 0])), (qp, .inr (7, [.ref q10, .ref q11, .int 0, .int 0])), (rc, .inl (cc, 16384, .inl (fun _ => 0))), (ot, .inl (co, 1, .inr (.inl (fun _ => 0)))), (de, .inr (0, [.ref qb, .int 0, .int (-1), .int 0, .int 0, .null, .ref qm, .ref qe, .ref qo, .ref qi, .ref qw, .ref qt, .ref qs, .ref qp])), (qm, .inl (cm, 26, .inr (.inr (.inr (.inr (fun _ => none))))))] := hD
  subst hw_860
  refine lv_icmp_eq (tgt := 917) hx hb px_dL_863 (by decide) (fun _ => ?_) (fun h9 => absurd (by decide +kernel) h9)
  exact px_tail C0 (by decide) (by decide) hS (lv_sub hl [0, 4] rfl)
set_option maxHeartbeats 4000000 in
set_option maxRecDepth 100000 in
/-- case 21 of the law -/
theorem px_case21 {p : Program} {e : Env} {s : State} {m : MethodId} {below : List Frame} {meth : Method} {c : Code} {l : Launch} {b : Nat} {xs : Nat → Int32} (C0 : lw_At p s m meth c b 6 xs) {dC : Nat → ClassId} {dI : Nat → Nat → Nat} {de qb qm qe qo qi qw qt qs qp q7 q10 q11 mo rt rc ot : Nat} {cb cm ct cc co : ClassId} {fs : List Value} {H : Heap} {locs : List Loc} {ls : Array Slot} (hK : va_K (dC, dI) vwCl [(cb, .byte), (cm, .object "MatroidDesk$Matroid"), (ct, .boolean), (cc, .byte), (co, .long)] s) (hP : va_P (dC, dI) vwCl [(de, .inr (0, [.ref qb, .int 0, .int (-1), .int 0, .int 0, .null, .ref qm, .ref qe, .ref qo, .ref qi, .ref qw, .ref qt, .ref qs, .ref qp])), (qb, .inl (cb, 512, .inl (fun _ => 0))), (qm, .inl (cm, 26, .inr (.inr (.inr (.inr (fun _ => none)))))), (qt, .inr (5, [.ref q7, .int 0, .int 0, .int 0, .int 0, .int 0])), (qp, .inr (7, [.ref q10, .ref q11, .int 0, .int 0])), (mo, .inr (8, fs)), (rt, .inl (ct, 26, .inl (fun _ => 0))), (rc, .inl (cc, 16384, .inl (fun _ => 0))), (ot, .inl (co, 1, .inr (.inl (fun _ => 0))))] H) (hD : va_D (fun q : Nat => s.heap.size ≤ q) [(de, .inr (0, [.ref qb, .int 0, .int (-1), .int 0, .int 0, .null, .ref qm, .ref qe, .ref qo, .ref qi, .ref qw, .ref qt, .ref qs, .ref qp])), (qb, .inl (cb, 512, .inl (fun _ => 0))), (qm, .inl (cm, 26, .inr (.inr (.inr (.inr (fun _ => none)))))), (qt, .inr (5, [.ref q7, .int 0, .int 0, .int 0, .int 0, .int 0])), (qp, .inr (7, [.ref q10, .ref q11, .int 0, .int 0])), (mo, .inr (8, fs)), (rt, .inl (ct, 26, .inl (fun _ => 0))), (rc, .inl (cc, 16384, .inl (fun _ => 0))), (ot, .inl (co, 1, .inr (.inl (fun _ => 0))))]) (hS : va_S (fun q : Nat => s.heap.size ≤ q) s.heap H locs) (hN : px_N s) (hF : px_mdl fs rt rc) (hl : lv_has ls 7 [(4, .int 0), (3, .ref ot), (2, .ref mo), (1, .ref de), (0, .ref b)]) : W p l e room_1 s m #[Value.ref b] below meth c H locs 460 449508 (lw_Z below #[Value.ref b] s) (F0 m 868 ls []) := by
  obtain ⟨hx, hb, hr, hml, hown, hts, hX, hbl, hlocks, hgv⟩ := id C0
  have hown : s.vm.findClass "MatroidDeskLaw" = some m.cls := hown
  have htw : ∀ w ∈ px_tl, w.before _ s = true := fun w h => hts w (px_tl_in w h)
  have hA : ∀ q : Nat, s.heap.size ≤ q → (fun q : Nat => s.heap.size ≤ q) q := fun _ h => h
  have hbA : ¬ (fun q : Nat => s.heap.size ≤ q) b := Nat.not_le.mpr hbl
  refine lv_aload_n hx hb px_dL_868 rfl (lv_at hl 3 rfl) ?_
  refine lv_aload_n hx hb px_dL_869 rfl (lv_at hl 4 rfl) ?_
  refine lv_iload hx hb px_dL_870 (lv_at hl 0 rfl) ?_
  refine lv_iconst (v := 1) hx hb px_dL_872 (by decide) ?_
  refine lv_iadd hx hb px_dL_873 ?_
  refine lv_topi (nm_r (e' := (1 : Int32)) (by decide +kernel) ?_)
  refine va_sld hx hb hX hbl hbA hS (show vp_in (nI 1) 6 from vp_in_nI (by decide) (by decide)) px_dL_874 ?_
  refine lv_topi (nm_r (e' := xs 1) (congrArg xs (by decide +kernel)) ?_)
  refine lv_aload_n hx hb px_dL_875 rfl (lv_at hl 4 rfl) ?_
  refine lv_iload hx hb px_dL_876 (lv_at hl 0 rfl) ?_
  refine lv_iconst (v := 2) hx hb px_dL_878 (by decide) ?_
  refine lv_iadd hx hb px_dL_879 ?_
  refine lv_topi (nm_r (e' := (2 : Int32)) (by decide +kernel) ?_)
  refine va_sld hx hb hX hbl hbA hS (show vp_in (nI 2) 6 from vp_in_nI (by decide) (by decide)) px_dL_880 ?_
  refine lv_topi (nm_r (e' := xs 2) (congrArg xs (by decide +kernel)) ?_)
  refine lv_aload_n hx hb px_dL_881 rfl (lv_at hl 4 rfl) ?_
  refine lv_iload hx hb px_dL_882 (lv_at hl 0 rfl) ?_
  refine lv_iconst (v := 3) hx hb px_dL_884 (by decide) ?_
  refine lv_iadd hx hb px_dL_885 ?_
  refine lv_topi (nm_r (e' := (3 : Int32)) (by decide +kernel) ?_)
  refine va_sld hx hb hX hbl hbA hS (show vp_in (nI 3) 6 from vp_in_nI (by decide) (by decide)) px_dL_886 ?_
  refine lv_topi (nm_r (e' := xs 3) (congrArg xs (by decide +kernel)) ?_)
  have hPc := hP.sub (ws' := [(de, .inr (0, [.ref qb, .int 0, .int (-1), .int 0, .int 0, .null, .ref qm, .ref qe, .ref qo, .ref qi, .ref qw, .ref qt, .ref qs, .ref qp])), (qm, .inl (cm, 26, .inr (.inr (.inr (.inr (fun _ => none))))))]) [0, 2] rfl
  have hDc := hD.sub (ws' := [(de, .inr (0, [.ref qb, .int 0, .int (-1), .int 0, .int 0, .null, .ref qm, .ref qe, .ref qo, .ref qi, .ref qw, .ref qt, .ref qs, .ref qp])), (qm, .inl (cm, 26, .inr (.inr (.inr (.inr (fun _ => none))))))]) [0, 2] (by decide) rfl
  have hKc := hK.sub (tys' := [(cm, .object "MatroidDesk$Matroid")]) [1] rfl
  have hFc := va_free (wc := [(de, .inr (0, [.ref qb, .int 0, .int (-1), .int 0, .int 0, .null, .ref qm, .ref qe, .ref qo, .ref qi, .ref qw, .ref qt, .ref qs, .ref qp])), (qm, .inl (cm, 26, .inr (.inr (.inr (.inr (fun _ => none))))))]) hD hS hA [0, 2] rfl
  refine va_calli (va_runV (As := [.int (xs 1), .int (xs 2), .int (xs 3)]) (rest := []) ⟨hx, hb, hml, hown, htw⟩ (px_D_image l dC dI H.size de qb qm qe qo qi qw qt qs qp cm (xs 1) (xs 2) (xs 3)) (cwV 3 htw (px_gvl (List.mem_append_left _ px_v47) (List.mem_append_right _ px_w393) (List.mem_append_right _ px_w394) (List.mem_append_right _ px_w6) (px_gl px_g40)) rfl rfl rfl (by decide +kernel) ⟨Nat.le_of_ble_eq_true rfl, Nat.le_of_ble_eq_true rfl⟩) ⟨fun a U g mk q => by obtain ⟨q0, q1, qP, qK, qD, qN⟩ := q; exact ⟨q0, q1, qP, va_K.moved (u := U) (U := U.calling g mk a) (Vm.Alike.refl U.vm) qK, qD, qN.same rfl⟩, va_recv hK hP (ci := 0) (q0 := 0) rfl rfl, fun U hU hW => ⟨rfl, by rw [hU], by rw [hU]; exact hPc, va_K.moved hW.alike hKc, hDc.weaken (fun _ _ _ _ => trivial), hN.warm hW⟩⟩ rfl rfl hl.1 rfl (lv_room (Nat.le_of_ble_eq_true rfl)) px_dL_887 ⟨(Nat.le_of_ble_eq_true rfl), (Nat.le_of_ble_eq_true rfl)⟩) hS (fun q _ h => hFc q h) hFc (fun r u t H1 locs ht hvm hw_887 hB hz1 hk1 hS => ?_)
  obtain ⟨hP1, hK1, hD1⟩ := hB
  rw [ht] at hP1
  have hK1 := va_K.moved hvm.symm hK1
  obtain ⟨hP, hD⟩ := va_join (wr := [(qb, .inl (cb, 512, .inl (fun _ => 0))), (qt, .inr (5, [.ref q7, .int 0, .int 0, .int 0, .int 0, .int 0])), (qp, .inr (7, [.ref q10, .ref q11, .int 0, .int 0])), (mo, .inr (8, fs)), (rt, .inl (ct, 26, .inl (fun _ => 0))), (rc, .inl (cc, 16384, .inl (fun _ => 0))), (ot, .inl (co, 1, .inr (.inl (fun _ => 0))))]) (w1 := [(de, .inr (0, [.ref qb, .int 0, .int (-1), .int 0, .int 0, .null, .ref qm, .ref qe, .ref qo, .ref qi, .ref qw, .ref qt, .ref qs, .ref qp])), (qm, .inl (cm, 26, .inr (.inr (.inr (.inr (fun _ => none))))))]) hP hD [0, 2] [1, 3, 4, 5, 6, 7, 8] rfl rfl (by decide) (by decide) hk1 hFc hP1 hD1
  generalize H1 = H at hP hS ⊢
  have hP : va_P (dC, dI) vwCl [(qb, .inl (cb, 512, .inl (fun _ => 0))), (qt, .inr (5, [.ref q7, .int 0, .int 0, .int 0, .int 0, .int 0])), (qp, .inr (7, [.ref q10, .ref q11, .int 0, .int 0])), (mo, .inr (8, fs)), (rt, .inl (ct, 26, .inl (fun _ => 0))), (rc, .inl (cc, 16384, .inl (fun _ => 0))), (ot, .inl (co, 1, .inr (.inl (fun _ => 0)))), (de, .inr (0, [.ref qb, .int 0, .int (-1), .int 0, .int 0, .null, .ref qm, .ref qe, .ref qo, .ref qi, .ref qw, .ref qt, .ref qs, .ref qp])), (qm, .inl (cm, 26, .inr (.inr (.inr (.inr (fun _ => none))))))] H := hP
  have hD : va_D (fun q : Nat => s.heap.size ≤ q) [(qb, .inl (cb, 512, .inl (fun _ => 0))), (qt, .inr (5, [.ref q7, .int 0, .int 0, .int 0, .int 0, .int 0])), (qp, .inr (7, [.ref q10, .ref q11, .int 0, .int 0])), (mo, .inr (8, fs)), (rt, .inl (ct, 26, .inl (fun _ => 0))), (rc, .inl (cc, 16384, .inl (fun _ => 0))), (ot, .inl (co, 1, .inr (.inl (fun _ => 0)))), (de, .inr (0, [.ref qb, .int 0, .int (-1), .int 0, .int 0, .null, .ref qm, .ref qe, .ref qo, .ref qi, .ref qw, .ref qt, .ref qs, .ref qp])), (qm, .inl (cm, 26, .inr (.inr (.inr (.inr (fun _ => none))))))] := hD
  subst hw_887
  refine lv_aload_n hx hb px_dL_890 rfl (lv_at hl 2 rfl) ?_
  refine lv_aload_n hx hb px_dL_891 rfl (lv_at hl 4 rfl) ?_
  refine lv_iload hx hb px_dL_892 (lv_at hl 0 rfl) ?_
  refine lv_iconst (v := 1) hx hb px_dL_894 (by decide) ?_
  refine lv_iadd hx hb px_dL_895 ?_
  refine lv_topi (nm_r (e' := (1 : Int32)) (by decide +kernel) ?_)
  refine va_sld hx hb hX hbl hbA hS (show vp_in (nI 1) 6 from vp_in_nI (by decide) (by decide)) px_dL_896 ?_
  refine lv_topi (nm_r (e' := xs 1) (congrArg xs (by decide +kernel)) ?_)
  refine lv_aload_n hx hb px_dL_897 rfl (lv_at hl 4 rfl) ?_
  refine lv_iload hx hb px_dL_898 (lv_at hl 0 rfl) ?_
  refine lv_iconst (v := 2) hx hb px_dL_900 (by decide) ?_
  refine lv_iadd hx hb px_dL_901 ?_
  refine lv_topi (nm_r (e' := (2 : Int32)) (by decide +kernel) ?_)
  refine va_sld hx hb hX hbl hbA hS (show vp_in (nI 2) 6 from vp_in_nI (by decide) (by decide)) px_dL_902 ?_
  refine lv_topi (nm_r (e' := xs 2) (congrArg xs (by decide +kernel)) ?_)
  refine lv_aload_n hx hb px_dL_903 rfl (lv_at hl 4 rfl) ?_
  refine lv_iload hx hb px_dL_904 (lv_at hl 0 rfl) ?_
  refine lv_iconst (v := 3) hx hb px_dL_906 (by decide) ?_
  refine lv_iadd hx hb px_dL_907 ?_
  refine lv_topi (nm_r (e' := (3 : Int32)) (by decide +kernel) ?_)
  refine va_sld hx hb hX hbl hbA hS (show vp_in (nI 3) 6 from vp_in_nI (by decide) (by decide)) px_dL_908 ?_
  refine lv_topi (nm_r (e' := xs 3) (congrArg xs (by decide +kernel)) ?_)
  have hPc := hP.sub (ws' := [(mo, .inr (8, fs)), (rt, .inl (ct, 26, .inl (fun _ => 0)))]) [3, 4] rfl
  have hDc := hD.sub (ws' := [(mo, .inr (8, fs)), (rt, .inl (ct, 26, .inl (fun _ => 0)))]) [3, 4] (by decide) rfl
  have hKc := hK.sub (tys' := [(ct, .boolean)]) [2] rfl
  have hFc := va_free (wc := [(mo, .inr (8, fs)), (rt, .inl (ct, 26, .inl (fun _ => 0)))]) hD hS hA [3, 4] rfl
  refine va_calli (va_runV (As := [.int (xs 1), .int (xs 2), .int (xs 3)]) (rest := [.int (-1)]) ⟨hx, hb, hml, hown, htw⟩ (px_M_image l dC dI H.size mo fs rt ct (xs 1) (xs 2) (xs 3) hF.1 hF.2.1) (cwV 3 htw (px_gvl (List.mem_append_left _ px_v48) (List.mem_append_right _ px_w494) (List.mem_append_right _ px_w495) (List.mem_append_right _ px_w94) (px_gl px_g68)) rfl rfl rfl (by decide +kernel) ⟨Nat.le_of_ble_eq_true rfl, Nat.le_of_ble_eq_true rfl⟩) ⟨fun a U g mk q => by obtain ⟨q0, q1, qP, qK, qD, qN⟩ := q; exact ⟨q0, q1, qP, va_K.moved (u := U) (U := U.calling g mk a) (Vm.Alike.refl U.vm) qK, qD, qN.same rfl⟩, va_recv hK hP (ci := 8) (q0 := 3) rfl rfl, fun U hU hW => ⟨rfl, by rw [hU], by rw [hU]; exact hPc, va_K.moved hW.alike hKc, hDc.weaken (fun _ _ _ _ => trivial), hN.warm hW⟩⟩ rfl rfl hl.1 rfl (lv_room (Nat.le_of_ble_eq_true rfl)) px_dL_909 ⟨(Nat.le_of_ble_eq_true rfl), (Nat.le_of_ble_eq_true rfl)⟩) hS (fun q _ h => hFc q h) hFc (fun r u t H1 locs ht hvm hw_909 hB hz1 hk1 hS => ?_)
  obtain ⟨hP1, hK1, hD1⟩ := hB
  rw [ht] at hP1
  have hK1 := va_K.moved hvm.symm hK1
  obtain ⟨hP, hD⟩ := va_join (wr := [(qb, .inl (cb, 512, .inl (fun _ => 0))), (qt, .inr (5, [.ref q7, .int 0, .int 0, .int 0, .int 0, .int 0])), (qp, .inr (7, [.ref q10, .ref q11, .int 0, .int 0])), (rc, .inl (cc, 16384, .inl (fun _ => 0))), (ot, .inl (co, 1, .inr (.inl (fun _ => 0)))), (de, .inr (0, [.ref qb, .int 0, .int (-1), .int 0, .int 0, .null, .ref qm, .ref qe, .ref qo, .ref qi, .ref qw, .ref qt, .ref qs, .ref qp])), (qm, .inl (cm, 26, .inr (.inr (.inr (.inr (fun _ => none))))))]) (w1 := []) hP hD [3, 4] [0, 1, 2, 5, 6, 7, 8] rfl rfl (by decide) (by decide) hk1 hFc hP1 hD1
  generalize H1 = H at hP hS ⊢
  have hP : va_P (dC, dI) vwCl [(qb, .inl (cb, 512, .inl (fun _ => 0))), (qt, .inr (5, [.ref q7, .int 0, .int 0, .int 0, .int 0, .int 0])), (qp, .inr (7, [.ref q10, .ref q11, .int 0, .int 0])), (rc, .inl (cc, 16384, .inl (fun _ => 0))), (ot, .inl (co, 1, .inr (.inl (fun _ => 0)))), (de, .inr (0, [.ref qb, .int 0, .int (-1), .int 0, .int 0, .null, .ref qm, .ref qe, .ref qo, .ref qi, .ref qw, .ref qt, .ref qs, .ref qp])), (qm, .inl (cm, 26, .inr (.inr (.inr (.inr (fun _ => none))))))] H := hP
  have hD : va_D (fun q : Nat => s.heap.size ≤ q) [(qb, .inl (cb, 512, .inl (fun _ => 0))), (qt, .inr (5, [.ref q7, .int 0, .int 0, .int 0, .int 0, .int 0])), (qp, .inr (7, [.ref q10, .ref q11, .int 0, .int 0])), (rc, .inl (cc, 16384, .inl (fun _ => 0))), (ot, .inl (co, 1, .inr (.inl (fun _ => 0)))), (de, .inr (0, [.ref qb, .int 0, .int (-1), .int 0, .int 0, .null, .ref qm, .ref qe, .ref qo, .ref qi, .ref qw, .ref qt, .ref qs, .ref qp])), (qm, .inl (cm, 26, .inr (.inr (.inr (.inr (fun _ => none))))))] := hD
  subst hw_909
  refine lv_icmp_eq (tgt := 917) hx hb px_dL_912 (by decide) (fun _ => ?_) (fun h9 => absurd (by decide +kernel) h9)
  exact px_tail C0 (by decide) (by decide) hS (lv_sub hl [0, 4] rfl)
