set_option maxHeartbeats 4000000 in
set_option maxRecDepth 100000 in
/-- case 14 of the law -/
theorem px_case14 {p : Program} {e : Env} {s : State} {m : MethodId} {below : List Frame} {meth : Method} {c : Code} {l : Launch} {b : Nat} {xs : Nat → Int32} (C0 : lw_At p s m meth c b 6 xs) {dC : Nat → ClassId} {dI : Nat → Nat → Nat} {de qb qm qe qo qi qw qt qs qp q7 q10 q11 mo rt rc ot : Nat} {cb cm ct cc co : ClassId} {fs : List Value} {H : Heap} {locs : List Loc} {ls : Array Slot} (hK : va_K (dC, dI) vwCl [(cb, .byte), (cm, .object "MatroidDesk$Matroid"), (ct, .boolean), (cc, .byte), (co, .long)] s) (hP : va_P (dC, dI) vwCl [(de, .inr (0, [.ref qb, .int 0, .int (-1), .int 0, .int 0, .null, .ref qm, .ref qe, .ref qo, .ref qi, .ref qw, .ref qt, .ref qs, .ref qp])), (qb, .inl (cb, 512, .inl (fun _ => 0))), (qm, .inl (cm, 26, .inr (.inr (.inr (.inr (fun _ => none)))))), (qt, .inr (5, [.ref q7, .int 0, .int 0, .int 0, .int 0, .int 0])), (qp, .inr (7, [.ref q10, .ref q11, .int 0, .int 0])), (mo, .inr (8, fs)), (rt, .inl (ct, 26, .inl (fun _ => 0))), (rc, .inl (cc, 16384, .inl (fun _ => 0))), (ot, .inl (co, 1, .inr (.inl (fun _ => 0))))] H) (hD : va_D (fun q : Nat => s.heap.size ≤ q) [(de, .inr (0, [.ref qb, .int 0, .int (-1), .int 0, .int 0, .null, .ref qm, .ref qe, .ref qo, .ref qi, .ref qw, .ref qt, .ref qs, .ref qp])), (qb, .inl (cb, 512, .inl (fun _ => 0))), (qm, .inl (cm, 26, .inr (.inr (.inr (.inr (fun _ => none)))))), (qt, .inr (5, [.ref q7, .int 0, .int 0, .int 0, .int 0, .int 0])), (qp, .inr (7, [.ref q10, .ref q11, .int 0, .int 0])), (mo, .inr (8, fs)), (rt, .inl (ct, 26, .inl (fun _ => 0))), (rc, .inl (cc, 16384, .inl (fun _ => 0))), (ot, .inl (co, 1, .inr (.inl (fun _ => 0))))]) (hS : va_S (fun q : Nat => s.heap.size ≤ q) s.heap H locs) (hN : px_N s) (hF : px_mdl fs rt rc) (hl : lv_has ls 7 [(4, .int 0), (3, .ref ot), (2, .ref mo), (1, .ref de), (0, .ref b)]) : W p l e room_1 s m #[Value.ref b] below meth c H locs 460 449508 (lw_Z below #[Value.ref b] s) (F0 m 621 ls []) := by
  obtain ⟨hx, hb, hr, hml, hown, hts, hX, hbl, hlocks, hgv⟩ := id C0
  have hown : s.vm.findClass "MatroidDeskLaw" = some m.cls := hown
  have htw : ∀ w ∈ px_tl, w.before _ s = true := fun w h => hts w (px_tl_in w h)
  have hA : ∀ q : Nat, s.heap.size ≤ q → (fun q : Nat => s.heap.size ≤ q) q := fun _ h => h
  have hbA : ¬ (fun q : Nat => s.heap.size ≤ q) b := Nat.not_le.mpr hbl
  refine lv_aload_n hx hb px_dL_621 rfl (lv_at hl 3 rfl) ?_
  refine lv_aload_n hx hb px_dL_622 rfl (lv_at hl 4 rfl) ?_
  refine lv_iload hx hb px_dL_623 (lv_at hl 0 rfl) ?_
  refine lv_iconst (v := 1) hx hb px_dL_625 (by decide) ?_
  refine lv_iadd hx hb px_dL_626 ?_
  refine lv_topi (nm_r (e' := (1 : Int32)) (by decide +kernel) ?_)
  refine va_sld hx hb hX hbl hbA hS (show vp_in (nI 1) 6 from vp_in_nI (by decide) (by decide)) px_dL_627 ?_
  refine lv_topi (nm_r (e' := xs 1) (congrArg xs (by decide +kernel)) ?_)
  have hPc := hP.sub (ws' := [(de, .inr (0, [.ref qb, .int 0, .int (-1), .int 0, .int 0, .null, .ref qm, .ref qe, .ref qo, .ref qi, .ref qw, .ref qt, .ref qs, .ref qp])), (qm, .inl (cm, 26, .inr (.inr (.inr (.inr (fun _ => none))))))]) [0, 2] rfl
  have hDc := hD.sub (ws' := [(de, .inr (0, [.ref qb, .int 0, .int (-1), .int 0, .int 0, .null, .ref qm, .ref qe, .ref qo, .ref qi, .ref qw, .ref qt, .ref qs, .ref qp])), (qm, .inl (cm, 26, .inr (.inr (.inr (.inr (fun _ => none))))))]) [0, 2] (by decide) rfl
  have hKc := hK.sub (tys' := [(cm, .object "MatroidDesk$Matroid")]) [1] rfl
  have hFc := va_free (wc := [(de, .inr (0, [.ref qb, .int 0, .int (-1), .int 0, .int 0, .null, .ref qm, .ref qe, .ref qo, .ref qi, .ref qw, .ref qt, .ref qs, .ref qp])), (qm, .inl (cm, 26, .inr (.inr (.inr (.inr (fun _ => none))))))]) hD hS hA [0, 2] rfl
  refine va_calli (va_runV (As := [.int (xs 1)]) (rest := []) ⟨hx, hb, hml, hown, htw⟩ (px_D_best l dC dI H.size de qb qm qe qo qi qw qt qs qp cm (xs 1)) (cwV 1 htw (px_gvl (List.mem_append_left _ px_v33) (List.mem_append_right _ px_w368) (List.mem_append_right _ px_w369) (List.mem_append_right _ px_w6) (px_gl px_g32)) rfl rfl rfl (by decide +kernel) ⟨Nat.le_of_ble_eq_true rfl, Nat.le_of_ble_eq_true rfl⟩) ⟨fun a U g mk q => by obtain ⟨q0, q1, qP, qK, qD, qN⟩ := q; exact ⟨q0, q1, qP, va_K.moved (u := U) (U := U.calling g mk a) (Vm.Alike.refl U.vm) qK, qD, qN.same rfl⟩, va_recv hK hP (ci := 0) (q0 := 0) rfl rfl, fun U hU hW => ⟨rfl, by rw [hU], by rw [hU]; exact hPc, va_K.moved hW.alike hKc, hDc.weaken (fun _ _ _ _ => trivial), hN.warm hW⟩⟩ rfl rfl hl.1 rfl (lv_room (Nat.le_of_ble_eq_true rfl)) px_dL_628 ⟨(Nat.le_of_ble_eq_true rfl), (Nat.le_of_ble_eq_true rfl)⟩) hS (fun q _ h => hFc q h) hFc (fun r u t H1 locs ht hvm hw_628 hB hz1 hk1 hS => ?_)
  obtain ⟨hP1, hK1, hD1⟩ := hB
  rw [ht] at hP1
  have hK1 := va_K.moved hvm.symm hK1
  obtain ⟨hP, hD⟩ := va_join (wr := [(qb, .inl (cb, 512, .inl (fun _ => 0))), (qt, .inr (5, [.ref q7, .int 0, .int 0, .int 0, .int 0, .int 0])), (qp, .inr (7, [.ref q10, .ref q11, .int 0, .int 0])), (mo, .inr (8, fs)), (rt, .inl (ct, 26, .inl (fun _ => 0))), (rc, .inl (cc, 16384, .inl (fun _ => 0))), (ot, .inl (co, 1, .inr (.inl (fun _ => 0))))]) (w1 := [(de, .inr (0, [.ref qb, .int 0, .int (-1), .int 0, .int 0, .null, .ref qm, .ref qe, .ref qo, .ref qi, .ref qw, .ref qt, .ref qs, .ref qp])), (qm, .inl (cm, 26, .inr (.inr (.inr (.inr (fun _ => none))))))]) hP hD [0, 2] [1, 3, 4, 5, 6, 7, 8] rfl rfl (by decide) (by decide) hk1 hFc hP1 hD1
  generalize H1 = H at hP hS ⊢
  have hP : va_P (dC, dI) vwCl [(qb, .inl (cb, 512, .inl (fun _ => 0))), (qt, .inr (5, [.ref q7, .int 0, .int 0, .int 0, .int 0, .int 0])), (qp, .inr (7, [.ref q10, .ref q11, .int 0, .int 0])), (mo, .inr (8, fs)), (rt, .inl (ct, 26, .inl (fun _ => 0))), (rc, .inl (cc, 16384, .inl (fun _ => 0))), (ot, .inl (co, 1, .inr (.inl (fun _ => 0)))), (de, .inr (0, [.ref qb, .int 0, .int (-1), .int 0, .int 0, .null, .ref qm, .ref qe, .ref qo, .ref qi, .ref qw, .ref qt, .ref qs, .ref qp])), (qm, .inl (cm, 26, .inr (.inr (.inr (.inr (fun _ => none))))))] H := hP
  have hD : va_D (fun q : Nat => s.heap.size ≤ q) [(qb, .inl (cb, 512, .inl (fun _ => 0))), (qt, .inr (5, [.ref q7, .int 0, .int 0, .int 0, .int 0, .int 0])), (qp, .inr (7, [.ref q10, .ref q11, .int 0, .int 0])), (mo, .inr (8, fs)), (rt, .inl (ct, 26, .inl (fun _ => 0))), (rc, .inl (cc, 16384, .inl (fun _ => 0))), (ot, .inl (co, 1, .inr (.inl (fun _ => 0)))), (de, .inr (0, [.ref qb, .int 0, .int (-1), .int 0, .int 0, .null, .ref qm, .ref qe, .ref qo, .ref qi, .ref qw, .ref qt, .ref qs, .ref qp])), (qm, .inl (cm, 26, .inr (.inr (.inr (.inr (fun _ => none))))))] := hD
  subst hw_628
  refine lv_aload_n hx hb px_dL_631 rfl (lv_at hl 2 rfl) ?_
  refine lv_aload_n hx hb px_dL_632 rfl (lv_at hl 4 rfl) ?_
  refine lv_iload hx hb px_dL_633 (lv_at hl 0 rfl) ?_
  refine lv_iconst (v := 1) hx hb px_dL_635 (by decide) ?_
  refine lv_iadd hx hb px_dL_636 ?_
  refine lv_topi (nm_r (e' := (1 : Int32)) (by decide +kernel) ?_)
  refine va_sld hx hb hX hbl hbA hS (show vp_in (nI 1) 6 from vp_in_nI (by decide) (by decide)) px_dL_637 ?_
  refine lv_topi (nm_r (e' := xs 1) (congrArg xs (by decide +kernel)) ?_)
  have hPc := hP.sub (ws' := [(mo, .inr (8, fs)), (rt, .inl (ct, 26, .inl (fun _ => 0)))]) [3, 4] rfl
  have hDc := hD.sub (ws' := [(mo, .inr (8, fs)), (rt, .inl (ct, 26, .inl (fun _ => 0)))]) [3, 4] (by decide) rfl
  have hKc := hK.sub (tys' := [(ct, .boolean)]) [2] rfl
  have hFc := va_free (wc := [(mo, .inr (8, fs)), (rt, .inl (ct, 26, .inl (fun _ => 0)))]) hD hS hA [3, 4] rfl
  refine va_calli (va_runV (As := [.int (xs 1)]) (rest := [.int (-1)]) ⟨hx, hb, hml, hown, htw⟩ (px_M_best l dC dI H.size mo fs rt ct (xs 1) hF.1 hF.2.1) (cwV 1 htw (px_gvl (List.mem_append_left _ px_v34) (List.mem_append_right _ px_w471) (List.mem_append_right _ px_w472) (List.mem_append_right _ px_w94) (px_gl px_g61)) rfl rfl rfl (by decide +kernel) ⟨Nat.le_of_ble_eq_true rfl, Nat.le_of_ble_eq_true rfl⟩) ⟨fun a U g mk q => by obtain ⟨q0, q1, qP, qK, qD, qN⟩ := q; exact ⟨q0, q1, qP, va_K.moved (u := U) (U := U.calling g mk a) (Vm.Alike.refl U.vm) qK, qD, qN.same rfl⟩, va_recv hK hP (ci := 8) (q0 := 3) rfl rfl, fun U hU hW => ⟨rfl, by rw [hU], by rw [hU]; exact hPc, va_K.moved hW.alike hKc, hDc.weaken (fun _ _ _ _ => trivial), hN.warm hW⟩⟩ rfl rfl hl.1 rfl (lv_room (Nat.le_of_ble_eq_true rfl)) px_dL_638 ⟨(Nat.le_of_ble_eq_true rfl), (Nat.le_of_ble_eq_true rfl)⟩) hS (fun q _ h => hFc q h) hFc (fun r u t H1 locs ht hvm hw_638 hB hz1 hk1 hS => ?_)
  obtain ⟨hP1, hK1, hD1⟩ := hB
  rw [ht] at hP1
  have hK1 := va_K.moved hvm.symm hK1
  obtain ⟨hP, hD⟩ := va_join (wr := [(qb, .inl (cb, 512, .inl (fun _ => 0))), (qt, .inr (5, [.ref q7, .int 0, .int 0, .int 0, .int 0, .int 0])), (qp, .inr (7, [.ref q10, .ref q11, .int 0, .int 0])), (rc, .inl (cc, 16384, .inl (fun _ => 0))), (ot, .inl (co, 1, .inr (.inl (fun _ => 0)))), (de, .inr (0, [.ref qb, .int 0, .int (-1), .int 0, .int 0, .null, .ref qm, .ref qe, .ref qo, .ref qi, .ref qw, .ref qt, .ref qs, .ref qp])), (qm, .inl (cm, 26, .inr (.inr (.inr (.inr (fun _ => none))))))]) (w1 := []) hP hD [3, 4] [0, 1, 2, 5, 6, 7, 8] rfl rfl (by decide) (by decide) hk1 hFc hP1 hD1
  generalize H1 = H at hP hS ⊢
  have hP : va_P (dC, dI) vwCl [(qb, .inl (cb, 512, .inl (fun _ => 0))), (qt, .inr (5, [.ref q7, .int 0, .int 0, .int 0, .int 0, .int 0])), (qp, .inr (7, [.ref q10, .ref q11, .int 0, .int 0])), (rc, .inl (cc, 16384, .inl (fun _ => 0))), (ot, .inl (co, 1, .inr (.inl (fun _ => 0)))), (de, .inr (0, [.ref qb, .int 0, .int (-1), .int 0, .int 0, .null, .ref qm, .ref qe, .ref qo, .ref qi, .ref qw, .ref qt, .ref qs, .ref qp])), (qm, .inl (cm, 26, .inr (.inr (.inr (.inr (fun _ => none))))))] H := hP
  have hD : va_D (fun q : Nat => s.heap.size ≤ q) [(qb, .inl (cb, 512, .inl (fun _ => 0))), (qt, .inr (5, [.ref q7, .int 0, .int 0, .int 0, .int 0, .int 0])), (qp, .inr (7, [.ref q10, .ref q11, .int 0, .int 0])), (rc, .inl (cc, 16384, .inl (fun _ => 0))), (ot, .inl (co, 1, .inr (.inl (fun _ => 0)))), (de, .inr (0, [.ref qb, .int 0, .int (-1), .int 0, .int 0, .null, .ref qm, .ref qe, .ref qo, .ref qi, .ref qw, .ref qt, .ref qs, .ref qp])), (qm, .inl (cm, 26, .inr (.inr (.inr (.inr (fun _ => none))))))] := hD
  subst hw_638
  refine lv_icmp_eq (tgt := 917) hx hb px_dL_641 (by decide) (fun _ => ?_) (fun h9 => absurd (by decide +kernel) h9)
  exact px_tail C0 (by decide) (by decide) hS (lv_sub hl [0, 4] rfl)
set_option maxHeartbeats 4000000 in
set_option maxRecDepth 100000 in
/-- case 15 of the law -/
theorem px_case15 {p : Program} {e : Env} {s : State} {m : MethodId} {below : List Frame} {meth : Method} {c : Code} {l : Launch} {b : Nat} {xs : Nat → Int32} (C0 : lw_At p s m meth c b 6 xs) {dC : Nat → ClassId} {dI : Nat → Nat → Nat} {de qb qm qe qo qi qw qt qs qp q7 q10 q11 mo rt rc ot : Nat} {cb cm ct cc co : ClassId} {fs : List Value} {H : Heap} {locs : List Loc} {ls : Array Slot} (hK : va_K (dC, dI) vwCl [(cb, .byte), (cm, .object "MatroidDesk$Matroid"), (ct, .boolean), (cc, .byte), (co, .long)] s) (hP : va_P (dC, dI) vwCl [(de, .inr (0, [.ref qb, .int 0, .int (-1), .int 0, .int 0, .null, .ref qm, .ref qe, .ref qo, .ref qi, .ref qw, .ref qt, .ref qs, .ref qp])), (qb, .inl (cb, 512, .inl (fun _ => 0))), (qm, .inl (cm, 26, .inr (.inr (.inr (.inr (fun _ => none)))))), (qt, .inr (5, [.ref q7, .int 0, .int 0, .int 0, .int 0, .int 0])), (qp, .inr (7, [.ref q10, .ref q11, .int 0, .int 0])), (mo, .inr (8, fs)), (rt, .inl (ct, 26, .inl (fun _ => 0))), (rc, .inl (cc, 16384, .inl (fun _ => 0))), (ot, .inl (co, 1, .inr (.inl (fun _ => 0))))] H) (hD : va_D (fun q : Nat => s.heap.size ≤ q) [(de, .inr (0, [.ref qb, .int 0, .int (-1), .int 0, .int 0, .null, .ref qm, .ref qe, .ref qo, .ref qi, .ref qw, .ref qt, .ref qs, .ref qp])), (qb, .inl (cb, 512, .inl (fun _ => 0))), (qm, .inl (cm, 26, .inr (.inr (.inr (.inr (fun _ => none)))))), (qt, .inr (5, [.ref q7, .int 0, .int 0, .int 0, .int 0, .int 0])), (qp, .inr (7, [.ref q10, .ref q11, .int 0, .int 0])), (mo, .inr (8, fs)), (rt, .inl (ct, 26, .inl (fun _ => 0))), (rc, .inl (cc, 16384, .inl (fun _ => 0))), (ot, .inl (co, 1, .inr (.inl (fun _ => 0))))]) (hS : va_S (fun q : Nat => s.heap.size ≤ q) s.heap H locs) (hN : px_N s) (hF : px_mdl fs rt rc) (hl : lv_has ls 7 [(4, .int 0), (3, .ref ot), (2, .ref mo), (1, .ref de), (0, .ref b)]) : W p l e room_1 s m #[Value.ref b] below meth c H locs 460 449508 (lw_Z below #[Value.ref b] s) (F0 m 646 ls []) := by
  obtain ⟨hx, hb, hr, hml, hown, hts, hX, hbl, hlocks, hgv⟩ := id C0
  have hown : s.vm.findClass "MatroidDeskLaw" = some m.cls := hown
  have htw : ∀ w ∈ px_tl, w.before _ s = true := fun w h => hts w (px_tl_in w h)
  have hA : ∀ q : Nat, s.heap.size ≤ q → (fun q : Nat => s.heap.size ≤ q) q := fun _ h => h
  have hbA : ¬ (fun q : Nat => s.heap.size ≤ q) b := Nat.not_le.mpr hbl
  refine lv_aload_n hx hb px_dL_646 rfl (lv_at hl 3 rfl) ?_
  refine lv_aload_n hx hb px_dL_647 rfl (lv_at hl 4 rfl) ?_
  refine lv_iload hx hb px_dL_648 (lv_at hl 0 rfl) ?_
  refine lv_iconst (v := 1) hx hb px_dL_650 (by decide) ?_
  refine lv_iadd hx hb px_dL_651 ?_
  refine lv_topi (nm_r (e' := (1 : Int32)) (by decide +kernel) ?_)
  refine va_sld hx hb hX hbl hbA hS (show vp_in (nI 1) 6 from vp_in_nI (by decide) (by decide)) px_dL_652 ?_
  refine lv_topi (nm_r (e' := xs 1) (congrArg xs (by decide +kernel)) ?_)
  refine lv_aload_n hx hb px_dL_653 rfl (lv_at hl 4 rfl) ?_
  refine lv_iload hx hb px_dL_654 (lv_at hl 0 rfl) ?_
  refine lv_iconst (v := 2) hx hb px_dL_656 (by decide) ?_
  refine lv_iadd hx hb px_dL_657 ?_
  refine lv_topi (nm_r (e' := (2 : Int32)) (by decide +kernel) ?_)
  refine va_sld hx hb hX hbl hbA hS (show vp_in (nI 2) 6 from vp_in_nI (by decide) (by decide)) px_dL_658 ?_
  refine lv_topi (nm_r (e' := xs 2) (congrArg xs (by decide +kernel)) ?_)
  have hPc := hP.sub (ws' := [(de, .inr (0, [.ref qb, .int 0, .int (-1), .int 0, .int 0, .null, .ref qm, .ref qe, .ref qo, .ref qi, .ref qw, .ref qt, .ref qs, .ref qp])), (qm, .inl (cm, 26, .inr (.inr (.inr (.inr (fun _ => none))))))]) [0, 2] rfl
  have hDc := hD.sub (ws' := [(de, .inr (0, [.ref qb, .int 0, .int (-1), .int 0, .int 0, .null, .ref qm, .ref qe, .ref qo, .ref qi, .ref qw, .ref qt, .ref qs, .ref qp])), (qm, .inl (cm, 26, .inr (.inr (.inr (.inr (fun _ => none))))))]) [0, 2] (by decide) rfl
  have hKc := hK.sub (tys' := [(cm, .object "MatroidDesk$Matroid")]) [1] rfl
  have hFc := va_free (wc := [(de, .inr (0, [.ref qb, .int 0, .int (-1), .int 0, .int 0, .null, .ref qm, .ref qe, .ref qo, .ref qi, .ref qw, .ref qt, .ref qs, .ref qp])), (qm, .inl (cm, 26, .inr (.inr (.inr (.inr (fun _ => none))))))]) hD hS hA [0, 2] rfl
  refine va_calli (va_runV (As := [.int (xs 1), .int (xs 2)]) (rest := []) ⟨hx, hb, hml, hown, htw⟩ (px_D_common l dC dI H.size de qb qm qe qo qi qw qt qs qp cm (xs 1) (xs 2)) (cwV 2 htw (px_gvl (List.mem_append_left _ px_v35) (List.mem_append_right _ px_w371) (List.mem_append_right _ px_w372) (List.mem_append_right _ px_w6) (px_gl px_g33)) rfl rfl rfl (by decide +kernel) ⟨Nat.le_of_ble_eq_true rfl, Nat.le_of_ble_eq_true rfl⟩) ⟨fun a U g mk q => by obtain ⟨q0, q1, qP, qK, qD, qN⟩ := q; exact ⟨q0, q1, qP, va_K.moved (u := U) (U := U.calling g mk a) (Vm.Alike.refl U.vm) qK, qD, qN.same rfl⟩, va_recv hK hP (ci := 0) (q0 := 0) rfl rfl, fun U hU hW => ⟨rfl, by rw [hU], by rw [hU]; exact hPc, va_K.moved hW.alike hKc, hDc.weaken (fun _ _ _ _ => trivial), hN.warm hW⟩⟩ rfl rfl hl.1 rfl (lv_room (Nat.le_of_ble_eq_true rfl)) px_dL_659 ⟨(Nat.le_of_ble_eq_true rfl), (Nat.le_of_ble_eq_true rfl)⟩) hS (fun q _ h => hFc q h) hFc (fun r u t H1 locs ht hvm hw_659 hB hz1 hk1 hS => ?_)
  obtain ⟨hP1, hK1, hD1⟩ := hB
  rw [ht] at hP1
  have hK1 := va_K.moved hvm.symm hK1
  obtain ⟨hP, hD⟩ := va_join (wr := [(qb, .inl (cb, 512, .inl (fun _ => 0))), (qt, .inr (5, [.ref q7, .int 0, .int 0, .int 0, .int 0, .int 0])), (qp, .inr (7, [.ref q10, .ref q11, .int 0, .int 0])), (mo, .inr (8, fs)), (rt, .inl (ct, 26, .inl (fun _ => 0))), (rc, .inl (cc, 16384, .inl (fun _ => 0))), (ot, .inl (co, 1, .inr (.inl (fun _ => 0))))]) (w1 := [(de, .inr (0, [.ref qb, .int 0, .int (-1), .int 0, .int 0, .null, .ref qm, .ref qe, .ref qo, .ref qi, .ref qw, .ref qt, .ref qs, .ref qp])), (qm, .inl (cm, 26, .inr (.inr (.inr (.inr (fun _ => none))))))]) hP hD [0, 2] [1, 3, 4, 5, 6, 7, 8] rfl rfl (by decide) (by decide) hk1 hFc hP1 hD1
  generalize H1 = H at hP hS ⊢
  have hP : va_P (dC, dI) vwCl [(qb, .inl (cb, 512, .inl (fun _ => 0))), (qt, .inr (5, [.ref q7, .int 0, .int 0, .int 0, .int 0, .int 0])), (qp, .inr (7, [.ref q10, .ref q11, .int 0, .int 0])), (mo, .inr (8, fs)), (rt, .inl (ct, 26, .inl (fun _ => 0))), (rc, .inl (cc, 16384, .inl (fun _ => 0))), (ot, .inl (co, 1, .inr (.inl (fun _ => 0)))), (de, .inr (0, [.ref qb, .int 0, .int (-1), .int 0, .int 0, .null, .ref qm, .ref qe, .ref qo, .ref qi, .ref qw, .ref qt, .ref qs, .ref qp])), (qm, .inl (cm, 26, .inr (.inr (.inr (.inr (fun _ => none))))))] H := hP
  have hD : va_D (fun q : Nat => s.heap.size ≤ q) [(qb, .inl (cb, 512, .inl (fun _ => 0))), (qt, .inr (5, [.ref q7, .int 0, .int 0, .int 0, .int 0, .int 0])), (qp, .inr (7, [.ref q10, .ref q11, .int 0, .int 0])), (mo, .inr (8, fs)), (rt, .inl (ct, 26, .inl (fun _ => 0))), (rc, .inl (cc, 16384, .inl (fun _ => 0))), (ot, .inl (co, 1, .inr (.inl (fun _ => 0)))), (de, .inr (0, [.ref qb, .int 0, .int (-1), .int 0, .int 0, .null, .ref qm, .ref qe, .ref qo, .ref qi, .ref qw, .ref qt, .ref qs, .ref qp])), (qm, .inl (cm, 26, .inr (.inr (.inr (.inr (fun _ => none))))))] := hD
  subst hw_659
  refine lv_aload_n hx hb px_dL_662 rfl (lv_at hl 2 rfl) ?_
  refine lv_aload_n hx hb px_dL_663 rfl (lv_at hl 4 rfl) ?_
  refine lv_iload hx hb px_dL_664 (lv_at hl 0 rfl) ?_
  refine lv_iconst (v := 1) hx hb px_dL_666 (by decide) ?_
  refine lv_iadd hx hb px_dL_667 ?_
  refine lv_topi (nm_r (e' := (1 : Int32)) (by decide +kernel) ?_)
  refine va_sld hx hb hX hbl hbA hS (show vp_in (nI 1) 6 from vp_in_nI (by decide) (by decide)) px_dL_668 ?_
  refine lv_topi (nm_r (e' := xs 1) (congrArg xs (by decide +kernel)) ?_)
  refine lv_aload_n hx hb px_dL_669 rfl (lv_at hl 4 rfl) ?_
  refine lv_iload hx hb px_dL_670 (lv_at hl 0 rfl) ?_
  refine lv_iconst (v := 2) hx hb px_dL_672 (by decide) ?_
  refine lv_iadd hx hb px_dL_673 ?_
  refine lv_topi (nm_r (e' := (2 : Int32)) (by decide +kernel) ?_)
  refine va_sld hx hb hX hbl hbA hS (show vp_in (nI 2) 6 from vp_in_nI (by decide) (by decide)) px_dL_674 ?_
  refine lv_topi (nm_r (e' := xs 2) (congrArg xs (by decide +kernel)) ?_)
  have hPc := hP.sub (ws' := [(mo, .inr (8, fs)), (rt, .inl (ct, 26, .inl (fun _ => 0)))]) [3, 4] rfl
  have hDc := hD.sub (ws' := [(mo, .inr (8, fs)), (rt, .inl (ct, 26, .inl (fun _ => 0)))]) [3, 4] (by decide) rfl
  have hKc := hK.sub (tys' := [(ct, .boolean)]) [2] rfl
  have hFc := va_free (wc := [(mo, .inr (8, fs)), (rt, .inl (ct, 26, .inl (fun _ => 0)))]) hD hS hA [3, 4] rfl
  refine va_calli (va_runV (As := [.int (xs 1), .int (xs 2)]) (rest := [.int (-1)]) ⟨hx, hb, hml, hown, htw⟩ (px_M_common l dC dI H.size mo fs rt ct (xs 1) (xs 2) hF.1 hF.2.1) (cwV 2 htw (px_gvl (List.mem_append_left _ px_v36) (List.mem_append_right _ px_w474) (List.mem_append_right _ px_w475) (List.mem_append_right _ px_w94) (px_gl px_g62)) rfl rfl rfl (by decide +kernel) ⟨Nat.le_of_ble_eq_true rfl, Nat.le_of_ble_eq_true rfl⟩) ⟨fun a U g mk q => by obtain ⟨q0, q1, qP, qK, qD, qN⟩ := q; exact ⟨q0, q1, qP, va_K.moved (u := U) (U := U.calling g mk a) (Vm.Alike.refl U.vm) qK, qD, qN.same rfl⟩, va_recv hK hP (ci := 8) (q0 := 3) rfl rfl, fun U hU hW => ⟨rfl, by rw [hU], by rw [hU]; exact hPc, va_K.moved hW.alike hKc, hDc.weaken (fun _ _ _ _ => trivial), hN.warm hW⟩⟩ rfl rfl hl.1 rfl (lv_room (Nat.le_of_ble_eq_true rfl)) px_dL_675 ⟨(Nat.le_of_ble_eq_true rfl), (Nat.le_of_ble_eq_true rfl)⟩) hS (fun q _ h => hFc q h) hFc (fun r u t H1 locs ht hvm hw_675 hB hz1 hk1 hS => ?_)
  obtain ⟨hP1, hK1, hD1⟩ := hB
  rw [ht] at hP1
  have hK1 := va_K.moved hvm.symm hK1
  obtain ⟨hP, hD⟩ := va_join (wr := [(qb, .inl (cb, 512, .inl (fun _ => 0))), (qt, .inr (5, [.ref q7, .int 0, .int 0, .int 0, .int 0, .int 0])), (qp, .inr (7, [.ref q10, .ref q11, .int 0, .int 0])), (rc, .inl (cc, 16384, .inl (fun _ => 0))), (ot, .inl (co, 1, .inr (.inl (fun _ => 0)))), (de, .inr (0, [.ref qb, .int 0, .int (-1), .int 0, .int 0, .null, .ref qm, .ref qe, .ref qo, .ref qi, .ref qw, .ref qt, .ref qs, .ref qp])), (qm, .inl (cm, 26, .inr (.inr (.inr (.inr (fun _ => none))))))]) (w1 := []) hP hD [3, 4] [0, 1, 2, 5, 6, 7, 8] rfl rfl (by decide) (by decide) hk1 hFc hP1 hD1
  generalize H1 = H at hP hS ⊢
  have hP : va_P (dC, dI) vwCl [(qb, .inl (cb, 512, .inl (fun _ => 0))), (qt, .inr (5, [.ref q7, .int 0, .int 0, .int 0, .int 0, .int 0])), (qp, .inr (7, [.ref q10, .ref q11, .int 0, .int 0])), (rc, .inl (cc, 16384, .inl (fun _ => 0))), (ot, .inl (co, 1, .inr (.inl (fun _ => 0)))), (de, .inr (0, [.ref qb, .int 0, .int (-1), .int 0, .int 0, .null, .ref qm, .ref qe, .ref qo, .ref qi, .ref qw, .ref qt, .ref qs, .ref qp])), (qm, .inl (cm, 26, .inr (.inr (.inr (.inr (fun _ => none))))))] H := hP
  have hD : va_D (fun q : Nat => s.heap.size ≤ q) [(qb, .inl (cb, 512, .inl (fun _ => 0))), (qt, .inr (5, [.ref q7, .int 0, .int 0, .int 0, .int 0, .int 0])), (qp, .inr (7, [.ref q10, .ref q11, .int 0, .int 0])), (rc, .inl (cc, 16384, .inl (fun _ => 0))), (ot, .inl (co, 1, .inr (.inl (fun _ => 0)))), (de, .inr (0, [.ref qb, .int 0, .int (-1), .int 0, .int 0, .null, .ref qm, .ref qe, .ref qo, .ref qi, .ref qw, .ref qt, .ref qs, .ref qp])), (qm, .inl (cm, 26, .inr (.inr (.inr (.inr (fun _ => none))))))] := hD
  subst hw_675
  refine lv_icmp_eq (tgt := 917) hx hb px_dL_678 (by decide) (fun _ => ?_) (fun h9 => absurd (by decide +kernel) h9)
  exact px_tail C0 (by decide) (by decide) hS (lv_sub hl [0, 4] rfl)
set_option maxHeartbeats 4000000 in
set_option maxRecDepth 100000 in
/-- case 16 of the law -/
theorem px_case16 {p : Program} {e : Env} {s : State} {m : MethodId} {below : List Frame} {meth : Method} {c : Code} {l : Launch} {b : Nat} {xs : Nat → Int32} (C0 : lw_At p s m meth c b 6 xs) {dC : Nat → ClassId} {dI : Nat → Nat → Nat} {de qb qm qe qo qi qw qt qs qp q7 q10 q11 mo rt rc ot : Nat} {cb cm ct cc co : ClassId} {fs : List Value} {H : Heap} {locs : List Loc} {ls : Array Slot} (hK : va_K (dC, dI) vwCl [(cb, .byte), (cm, .object "MatroidDesk$Matroid"), (ct, .boolean), (cc, .byte), (co, .long)] s) (hP : va_P (dC, dI) vwCl [(de, .inr (0, [.ref qb, .int 0, .int (-1), .int 0, .int 0, .null, .ref qm, .ref qe, .ref qo, .ref qi, .ref qw, .ref qt, .ref qs, .ref qp])), (qb, .inl (cb, 512, .inl (fun _ => 0))), (qm, .inl (cm, 26, .inr (.inr (.inr (.inr (fun _ => none)))))), (qt, .inr (5, [.ref q7, .int 0, .int 0, .int 0, .int 0, .int 0])), (qp, .inr (7, [.ref q10, .ref q11, .int 0, .int 0])), (mo, .inr (8, fs)), (rt, .inl (ct, 26, .inl (fun _ => 0))), (rc, .inl (cc, 16384, .inl (fun _ => 0))), (ot, .inl (co, 1, .inr (.inl (fun _ => 0))))] H) (hD : va_D (fun q : Nat => s.heap.size ≤ q) [(de, .inr (0, [.ref qb, .int 0, .int (-1), .int 0, .int 0, .null, .ref qm, .ref qe, .ref qo, .ref qi, .ref qw, .ref qt, .ref qs, .ref qp])), (qb, .inl (cb, 512, .inl (fun _ => 0))), (qm, .inl (cm, 26, .inr (.inr (.inr (.inr (fun _ => none)))))), (qt, .inr (5, [.ref q7, .int 0, .int 0, .int 0, .int 0, .int 0])), (qp, .inr (7, [.ref q10, .ref q11, .int 0, .int 0])), (mo, .inr (8, fs)), (rt, .inl (ct, 26, .inl (fun _ => 0))), (rc, .inl (cc, 16384, .inl (fun _ => 0))), (ot, .inl (co, 1, .inr (.inl (fun _ => 0))))]) (hS : va_S (fun q : Nat => s.heap.size ≤ q) s.heap H locs) (hN : px_N s) (hF : px_mdl fs rt rc) (hl : lv_has ls 7 [(4, .int 0), (3, .ref ot), (2, .ref mo), (1, .ref de), (0, .ref b)]) : W p l e room_1 s m #[Value.ref b] below meth c H locs 460 449508 (lw_Z below #[Value.ref b] s) (F0 m 683 ls []) := by
  obtain ⟨hx, hb, hr, hml, hown, hts, hX, hbl, hlocks, hgv⟩ := id C0
  have hown : s.vm.findClass "MatroidDeskLaw" = some m.cls := hown
  have htw : ∀ w ∈ px_tl, w.before _ s = true := fun w h => hts w (px_tl_in w h)
  have hA : ∀ q : Nat, s.heap.size ≤ q → (fun q : Nat => s.heap.size ≤ q) q := fun _ h => h
  have hbA : ¬ (fun q : Nat => s.heap.size ≤ q) b := Nat.not_le.mpr hbl
  refine lv_aload_n hx hb px_dL_683 rfl (lv_at hl 3 rfl) ?_
  refine lv_aload_n hx hb px_dL_684 rfl (lv_at hl 4 rfl) ?_
  refine lv_iload hx hb px_dL_685 (lv_at hl 0 rfl) ?_
  refine lv_iconst (v := 1) hx hb px_dL_687 (by decide) ?_
  refine lv_iadd hx hb px_dL_688 ?_
  refine lv_topi (nm_r (e' := (1 : Int32)) (by decide +kernel) ?_)
  refine va_sld hx hb hX hbl hbA hS (show vp_in (nI 1) 6 from vp_in_nI (by decide) (by decide)) px_dL_689 ?_
  refine lv_topi (nm_r (e' := xs 1) (congrArg xs (by decide +kernel)) ?_)
  refine lv_aload_n hx hb px_dL_690 rfl (lv_at hl 4 rfl) ?_
  refine lv_iload hx hb px_dL_691 (lv_at hl 0 rfl) ?_
  refine lv_iconst (v := 2) hx hb px_dL_693 (by decide) ?_
  refine lv_iadd hx hb px_dL_694 ?_
  refine lv_topi (nm_r (e' := (2 : Int32)) (by decide +kernel) ?_)
  refine va_sld hx hb hX hbl hbA hS (show vp_in (nI 2) 6 from vp_in_nI (by decide) (by decide)) px_dL_695 ?_
  refine lv_topi (nm_r (e' := xs 2) (congrArg xs (by decide +kernel)) ?_)
  have hPc := hP.sub (ws' := [(de, .inr (0, [.ref qb, .int 0, .int (-1), .int 0, .int 0, .null, .ref qm, .ref qe, .ref qo, .ref qi, .ref qw, .ref qt, .ref qs, .ref qp])), (qm, .inl (cm, 26, .inr (.inr (.inr (.inr (fun _ => none))))))]) [0, 2] rfl
  have hDc := hD.sub (ws' := [(de, .inr (0, [.ref qb, .int 0, .int (-1), .int 0, .int 0, .null, .ref qm, .ref qe, .ref qo, .ref qi, .ref qw, .ref qt, .ref qs, .ref qp])), (qm, .inl (cm, 26, .inr (.inr (.inr (.inr (fun _ => none))))))]) [0, 2] (by decide) rfl
  have hKc := hK.sub (tys' := [(cm, .object "MatroidDesk$Matroid")]) [1] rfl
  have hFc := va_free (wc := [(de, .inr (0, [.ref qb, .int 0, .int (-1), .int 0, .int 0, .null, .ref qm, .ref qe, .ref qo, .ref qi, .ref qw, .ref qt, .ref qs, .ref qp])), (qm, .inl (cm, 26, .inr (.inr (.inr (.inr (fun _ => none))))))]) hD hS hA [0, 2] rfl
  refine va_calli (va_runV (As := [.int (xs 1), .int (xs 2)]) (rest := []) ⟨hx, hb, hml, hown, htw⟩ (px_D_cover l dC dI H.size de qb qm qe qo qi qw qt qs qp cm (xs 1) (xs 2)) (cwV 2 htw (px_gvl (List.mem_append_left _ px_v37) (List.mem_append_right _ px_w374) (List.mem_append_right _ px_w375) (List.mem_append_right _ px_w6) (px_gl px_g34)) rfl rfl rfl (by decide +kernel) ⟨Nat.le_of_ble_eq_true rfl, Nat.le_of_ble_eq_true rfl⟩) ⟨fun a U g mk q => by obtain ⟨q0, q1, qP, qK, qD, qN⟩ := q; exact ⟨q0, q1, qP, va_K.moved (u := U) (U := U.calling g mk a) (Vm.Alike.refl U.vm) qK, qD, qN.same rfl⟩, va_recv hK hP (ci := 0) (q0 := 0) rfl rfl, fun U hU hW => ⟨rfl, by rw [hU], by rw [hU]; exact hPc, va_K.moved hW.alike hKc, hDc.weaken (fun _ _ _ _ => trivial), hN.warm hW⟩⟩ rfl rfl hl.1 rfl (lv_room (Nat.le_of_ble_eq_true rfl)) px_dL_696 ⟨(Nat.le_of_ble_eq_true rfl), (Nat.le_of_ble_eq_true rfl)⟩) hS (fun q _ h => hFc q h) hFc (fun r u t H1 locs ht hvm hw_696 hB hz1 hk1 hS => ?_)
  obtain ⟨hP1, hK1, hD1⟩ := hB
  rw [ht] at hP1
  have hK1 := va_K.moved hvm.symm hK1
  obtain ⟨hP, hD⟩ := va_join (wr := [(qb, .inl (cb, 512, .inl (fun _ => 0))), (qt, .inr (5, [.ref q7, .int 0, .int 0, .int 0, .int 0, .int 0])), (qp, .inr (7, [.ref q10, .ref q11, .int 0, .int 0])), (mo, .inr (8, fs)), (rt, .inl (ct, 26, .inl (fun _ => 0))), (rc, .inl (cc, 16384, .inl (fun _ => 0))), (ot, .inl (co, 1, .inr (.inl (fun _ => 0))))]) (w1 := [(de, .inr (0, [.ref qb, .int 0, .int (-1), .int 0, .int 0, .null, .ref qm, .ref qe, .ref qo, .ref qi, .ref qw, .ref qt, .ref qs, .ref qp])), (qm, .inl (cm, 26, .inr (.inr (.inr (.inr (fun _ => none))))))]) hP hD [0, 2] [1, 3, 4, 5, 6, 7, 8] rfl rfl (by decide) (by decide) hk1 hFc hP1 hD1
  generalize H1 = H at hP hS ⊢
  have hP : va_P (dC, dI) vwCl [(qb, .inl (cb, 512, .inl (fun _ => 0))), (qt, .inr (5, [.ref q7, .int 0, .int 0, .int 0, .int 0, .int 0])), (qp, .inr (7, [.ref q10, .ref q11, .int 0, .int 0])), (mo, .inr (8, fs)), (rt, .inl (ct, 26, .inl (fun _ => 0))), (rc, .inl (cc, 16384, .inl (fun _ => 0))), (ot, .inl (co, 1, .inr (.inl (fun _ => 0)))), (de, .inr (0, [.ref qb, .int 0, .int (-1), .int 0, .int 0, .null, .ref qm, .ref qe, .ref qo, .ref qi, .ref qw, .ref qt, .ref qs, .ref qp])), (qm, .inl (cm, 26, .inr (.inr (.inr (.inr (fun _ => none))))))] H := hP
  have hD : va_D (fun q : Nat => s.heap.size ≤ q) [(qb, .inl (cb, 512, .inl (fun _ => 0))), (qt, .inr (5, [.ref q7, .int 0, .int 0, .int 0, .int 0, .int 0])), (qp, .inr (7, [.ref q10, .ref q11, .int 0, .int 0])), (mo, .inr (8, fs)), (rt, .inl (ct, 26, .inl (fun _ => 0))), (rc, .inl (cc, 16384, .inl (fun _ => 0))), (ot, .inl (co, 1, .inr (.inl (fun _ => 0)))), (de, .inr (0, [.ref qb, .int 0, .int (-1), .int 0, .int 0, .null, .ref qm, .ref qe, .ref qo, .ref qi, .ref qw, .ref qt, .ref qs, .ref qp])), (qm, .inl (cm, 26, .inr (.inr (.inr (.inr (fun _ => none))))))] := hD
  subst hw_696
  refine lv_aload_n hx hb px_dL_699 rfl (lv_at hl 2 rfl) ?_
  refine lv_aload_n hx hb px_dL_700 rfl (lv_at hl 4 rfl) ?_
  refine lv_iload hx hb px_dL_701 (lv_at hl 0 rfl) ?_
  refine lv_iconst (v := 1) hx hb px_dL_703 (by decide) ?_
  refine lv_iadd hx hb px_dL_704 ?_
  refine lv_topi (nm_r (e' := (1 : Int32)) (by decide +kernel) ?_)
  refine va_sld hx hb hX hbl hbA hS (show vp_in (nI 1) 6 from vp_in_nI (by decide) (by decide)) px_dL_705 ?_
  refine lv_topi (nm_r (e' := xs 1) (congrArg xs (by decide +kernel)) ?_)
  refine lv_aload_n hx hb px_dL_706 rfl (lv_at hl 4 rfl) ?_
  refine lv_iload hx hb px_dL_707 (lv_at hl 0 rfl) ?_
  refine lv_iconst (v := 2) hx hb px_dL_709 (by decide) ?_
  refine lv_iadd hx hb px_dL_710 ?_
  refine lv_topi (nm_r (e' := (2 : Int32)) (by decide +kernel) ?_)
  refine va_sld hx hb hX hbl hbA hS (show vp_in (nI 2) 6 from vp_in_nI (by decide) (by decide)) px_dL_711 ?_
  refine lv_topi (nm_r (e' := xs 2) (congrArg xs (by decide +kernel)) ?_)
  have hPc := hP.sub (ws' := [(mo, .inr (8, fs)), (rt, .inl (ct, 26, .inl (fun _ => 0)))]) [3, 4] rfl
  have hDc := hD.sub (ws' := [(mo, .inr (8, fs)), (rt, .inl (ct, 26, .inl (fun _ => 0)))]) [3, 4] (by decide) rfl
  have hKc := hK.sub (tys' := [(ct, .boolean)]) [2] rfl
  have hFc := va_free (wc := [(mo, .inr (8, fs)), (rt, .inl (ct, 26, .inl (fun _ => 0)))]) hD hS hA [3, 4] rfl
  refine va_calli (va_runV (As := [.int (xs 1), .int (xs 2)]) (rest := [.int (-1)]) ⟨hx, hb, hml, hown, htw⟩ (px_M_cover l dC dI H.size mo fs rt ct (xs 1) (xs 2) hF.1 hF.2.1) (cwV 2 htw (px_gvl (List.mem_append_left _ px_v38) (List.mem_append_right _ px_w477) (List.mem_append_right _ px_w478) (List.mem_append_right _ px_w94) (px_gl px_g63)) rfl rfl rfl (by decide +kernel) ⟨Nat.le_of_ble_eq_true rfl, Nat.le_of_ble_eq_true rfl⟩) ⟨fun a U g mk q => by obtain ⟨q0, q1, qP, qK, qD, qN⟩ := q; exact ⟨q0, q1, qP, va_K.moved (u := U) (U := U.calling g mk a) (Vm.Alike.refl U.vm) qK, qD, qN.same rfl⟩, va_recv hK hP (ci := 8) (q0 := 3) rfl rfl, fun U hU hW => ⟨rfl, by rw [hU], by rw [hU]; exact hPc, va_K.moved hW.alike hKc, hDc.weaken (fun _ _ _ _ => trivial), hN.warm hW⟩⟩ rfl rfl hl.1 rfl (lv_room (Nat.le_of_ble_eq_true rfl)) px_dL_712 ⟨(Nat.le_of_ble_eq_true rfl), (Nat.le_of_ble_eq_true rfl)⟩) hS (fun q _ h => hFc q h) hFc (fun r u t H1 locs ht hvm hw_712 hB hz1 hk1 hS => ?_)
  obtain ⟨hP1, hK1, hD1⟩ := hB
  rw [ht] at hP1
  have hK1 := va_K.moved hvm.symm hK1
  obtain ⟨hP, hD⟩ := va_join (wr := [(qb, .inl (cb, 512, .inl (fun _ => 0))), (qt, .inr (5, [.ref q7, .int 0, .int 0, .int 0, .int 0, .int 0])), (qp, .inr (7, [.ref q10, .ref q11, .int 0, .int 0])), (rc, .inl (cc, 16384, .inl (fun _ => 0))), (ot, .inl (co, 1, .inr (.inl (fun _ => 0)))), (de, .inr (0, [.ref qb, .int 0, .int (-1), .int 0, .int 0, .null, .ref qm, .ref qe, .ref qo, .ref qi, .ref qw, .ref qt, .ref qs, .ref qp])), (qm, .inl (cm, 26, .inr (.inr (.inr (.inr (fun _ => none))))))]) (w1 := []) hP hD [3, 4] [0, 1, 2, 5, 6, 7, 8] rfl rfl (by decide) (by decide) hk1 hFc hP1 hD1
  generalize H1 = H at hP hS ⊢
  have hP : va_P (dC, dI) vwCl [(qb, .inl (cb, 512, .inl (fun _ => 0))), (qt, .inr (5, [.ref q7, .int 0, .int 0, .int 0, .int 0, .int 0])), (qp, .inr (7, [.ref q10, .ref q11, .int 0, .int 0])), (rc, .inl (cc, 16384, .inl (fun _ => 0))), (ot, .inl (co, 1, .inr (.inl (fun _ => 0)))), (de, .inr (0, [.ref qb, .int 0, .int (-1), .int 0, .int 0, .null, .ref qm, .ref qe, .ref qo, .ref qi, .ref qw, .ref qt, .ref qs, .ref qp])), (qm, .inl (cm, 26, .inr (.inr (.inr (.inr (fun _ => none))))))] H := hP
  have hD : va_D (fun q : Nat => s.heap.size ≤ q) [(qb, .inl (cb, 512, .inl (fun _ => 0))), (qt, .inr (5, [.ref q7, .int 0, .int 0, .int 0, .int 0, .int 0])), (qp, .inr (7, [.ref q10, .ref q11, .int 0, .int 0])), (rc, .inl (cc, 16384, .inl (fun _ => 0))), (ot, .inl (co, 1, .inr (.inl (fun _ => 0)))), (de, .inr (0, [.ref qb, .int 0, .int (-1), .int 0, .int 0, .null, .ref qm, .ref qe, .ref qo, .ref qi, .ref qw, .ref qt, .ref qs, .ref qp])), (qm, .inl (cm, 26, .inr (.inr (.inr (.inr (fun _ => none))))))] := hD
  subst hw_712
  refine lv_icmp_eq (tgt := 917) hx hb px_dL_715 (by decide) (fun _ => ?_) (fun h9 => absurd (by decide +kernel) h9)
  exact px_tail C0 (by decide) (by decide) hS (lv_sub hl [0, 4] rfl)
set_option maxHeartbeats 4000000 in
set_option maxRecDepth 100000 in
/-- case 17 of the law -/
theorem px_case17 {p : Program} {e : Env} {s : State} {m : MethodId} {below : List Frame} {meth : Method} {c : Code} {l : Launch} {b : Nat} {xs : Nat → Int32} (C0 : lw_At p s m meth c b 6 xs) {dC : Nat → ClassId} {dI : Nat → Nat → Nat} {de qb qm qe qo qi qw qt qs qp q7 q10 q11 mo rt rc ot : Nat} {cb cm ct cc co : ClassId} {fs : List Value} {H : Heap} {locs : List Loc} {ls : Array Slot} (hK : va_K (dC, dI) vwCl [(cb, .byte), (cm, .object "MatroidDesk$Matroid"), (ct, .boolean), (cc, .byte), (co, .long)] s) (hP : va_P (dC, dI) vwCl [(de, .inr (0, [.ref qb, .int 0, .int (-1), .int 0, .int 0, .null, .ref qm, .ref qe, .ref qo, .ref qi, .ref qw, .ref qt, .ref qs, .ref qp])), (qb, .inl (cb, 512, .inl (fun _ => 0))), (qm, .inl (cm, 26, .inr (.inr (.inr (.inr (fun _ => none)))))), (qt, .inr (5, [.ref q7, .int 0, .int 0, .int 0, .int 0, .int 0])), (qp, .inr (7, [.ref q10, .ref q11, .int 0, .int 0])), (mo, .inr (8, fs)), (rt, .inl (ct, 26, .inl (fun _ => 0))), (rc, .inl (cc, 16384, .inl (fun _ => 0))), (ot, .inl (co, 1, .inr (.inl (fun _ => 0))))] H) (hD : va_D (fun q : Nat => s.heap.size ≤ q) [(de, .inr (0, [.ref qb, .int 0, .int (-1), .int 0, .int 0, .null, .ref qm, .ref qe, .ref qo, .ref qi, .ref qw, .ref qt, .ref qs, .ref qp])), (qb, .inl (cb, 512, .inl (fun _ => 0))), (qm, .inl (cm, 26, .inr (.inr (.inr (.inr (fun _ => none)))))), (qt, .inr (5, [.ref q7, .int 0, .int 0, .int 0, .int 0, .int 0])), (qp, .inr (7, [.ref q10, .ref q11, .int 0, .int 0])), (mo, .inr (8, fs)), (rt, .inl (ct, 26, .inl (fun _ => 0))), (rc, .inl (cc, 16384, .inl (fun _ => 0))), (ot, .inl (co, 1, .inr (.inl (fun _ => 0))))]) (hS : va_S (fun q : Nat => s.heap.size ≤ q) s.heap H locs) (hN : px_N s) (hF : px_mdl fs rt rc) (hl : lv_has ls 7 [(4, .int 0), (3, .ref ot), (2, .ref mo), (1, .ref de), (0, .ref b)]) : W p l e room_1 s m #[Value.ref b] below meth c H locs 460 449508 (lw_Z below #[Value.ref b] s) (F0 m 720 ls []) := by
  obtain ⟨hx, hb, hr, hml, hown, hts, hX, hbl, hlocks, hgv⟩ := id C0
  have hown : s.vm.findClass "MatroidDeskLaw" = some m.cls := hown
  have htw : ∀ w ∈ px_tl, w.before _ s = true := fun w h => hts w (px_tl_in w h)
  have hA : ∀ q : Nat, s.heap.size ≤ q → (fun q : Nat => s.heap.size ≤ q) q := fun _ h => h
  have hbA : ¬ (fun q : Nat => s.heap.size ≤ q) b := Nat.not_le.mpr hbl
  refine lv_aload_n hx hb px_dL_720 rfl (lv_at hl 3 rfl) ?_
  refine lv_aload_n hx hb px_dL_721 rfl (lv_at hl 4 rfl) ?_
  refine lv_iload hx hb px_dL_722 (lv_at hl 0 rfl) ?_
  refine lv_iconst (v := 1) hx hb px_dL_724 (by decide) ?_
  refine lv_iadd hx hb px_dL_725 ?_
  refine lv_topi (nm_r (e' := (1 : Int32)) (by decide +kernel) ?_)
  refine va_sld hx hb hX hbl hbA hS (show vp_in (nI 1) 6 from vp_in_nI (by decide) (by decide)) px_dL_726 ?_
  refine lv_topi (nm_r (e' := xs 1) (congrArg xs (by decide +kernel)) ?_)
  refine lv_aload_n hx hb px_dL_727 rfl (lv_at hl 4 rfl) ?_
  refine lv_iload hx hb px_dL_728 (lv_at hl 0 rfl) ?_
  refine lv_iconst (v := 2) hx hb px_dL_730 (by decide) ?_
  refine lv_iadd hx hb px_dL_731 ?_
  refine lv_topi (nm_r (e' := (2 : Int32)) (by decide +kernel) ?_)
  refine va_sld hx hb hX hbl hbA hS (show vp_in (nI 2) 6 from vp_in_nI (by decide) (by decide)) px_dL_732 ?_
  refine lv_topi (nm_r (e' := xs 2) (congrArg xs (by decide +kernel)) ?_)
  have hPc := hP.sub (ws' := [(de, .inr (0, [.ref qb, .int 0, .int (-1), .int 0, .int 0, .null, .ref qm, .ref qe, .ref qo, .ref qi, .ref qw, .ref qt, .ref qs, .ref qp])), (qm, .inl (cm, 26, .inr (.inr (.inr (.inr (fun _ => none))))))]) [0, 2] rfl
  have hDc := hD.sub (ws' := [(de, .inr (0, [.ref qb, .int 0, .int (-1), .int 0, .int 0, .null, .ref qm, .ref qe, .ref qo, .ref qi, .ref qw, .ref qt, .ref qs, .ref qp])), (qm, .inl (cm, 26, .inr (.inr (.inr (.inr (fun _ => none))))))]) [0, 2] (by decide) rfl
  have hKc := hK.sub (tys' := [(cm, .object "MatroidDesk$Matroid")]) [1] rfl
  have hFc := va_free (wc := [(de, .inr (0, [.ref qb, .int 0, .int (-1), .int 0, .int 0, .null, .ref qm, .ref qe, .ref qo, .ref qi, .ref qw, .ref qt, .ref qs, .ref qp])), (qm, .inl (cm, 26, .inr (.inr (.inr (.inr (fun _ => none))))))]) hD hS hA [0, 2] rfl
  refine va_calli (va_runV (As := [.int (xs 1), .int (xs 2)]) (rest := []) ⟨hx, hb, hml, hown, htw⟩ (px_D_sign l dC dI H.size de qb qm qe qo qi qw qt qs qp cm (xs 1) (xs 2)) (cwV 2 htw (px_gvl (List.mem_append_left _ px_v39) (List.mem_append_right _ px_w377) (List.mem_append_right _ px_w378) (List.mem_append_right _ px_w6) (px_gl px_g35)) rfl rfl rfl (by decide +kernel) ⟨Nat.le_of_ble_eq_true rfl, Nat.le_of_ble_eq_true rfl⟩) ⟨fun a U g mk q => by obtain ⟨q0, q1, qP, qK, qD, qN⟩ := q; exact ⟨q0, q1, qP, va_K.moved (u := U) (U := U.calling g mk a) (Vm.Alike.refl U.vm) qK, qD, qN.same rfl⟩, va_recv hK hP (ci := 0) (q0 := 0) rfl rfl, fun U hU hW => ⟨rfl, by rw [hU], by rw [hU]; exact hPc, va_K.moved hW.alike hKc, hDc.weaken (fun _ _ _ _ => trivial), hN.warm hW⟩⟩ rfl rfl hl.1 rfl (lv_room (Nat.le_of_ble_eq_true rfl)) px_dL_733 ⟨(Nat.le_of_ble_eq_true rfl), (Nat.le_of_ble_eq_true rfl)⟩) hS (fun q _ h => hFc q h) hFc (fun r u t H1 locs ht hvm hw_733 hB hz1 hk1 hS => ?_)
  obtain ⟨hP1, hK1, hD1⟩ := hB
  rw [ht] at hP1
  have hK1 := va_K.moved hvm.symm hK1
  obtain ⟨hP, hD⟩ := va_join (wr := [(qb, .inl (cb, 512, .inl (fun _ => 0))), (qt, .inr (5, [.ref q7, .int 0, .int 0, .int 0, .int 0, .int 0])), (qp, .inr (7, [.ref q10, .ref q11, .int 0, .int 0])), (mo, .inr (8, fs)), (rt, .inl (ct, 26, .inl (fun _ => 0))), (rc, .inl (cc, 16384, .inl (fun _ => 0))), (ot, .inl (co, 1, .inr (.inl (fun _ => 0))))]) (w1 := [(de, .inr (0, [.ref qb, .int 0, .int (-1), .int 0, .int 0, .null, .ref qm, .ref qe, .ref qo, .ref qi, .ref qw, .ref qt, .ref qs, .ref qp])), (qm, .inl (cm, 26, .inr (.inr (.inr (.inr (fun _ => none))))))]) hP hD [0, 2] [1, 3, 4, 5, 6, 7, 8] rfl rfl (by decide) (by decide) hk1 hFc hP1 hD1
  generalize H1 = H at hP hS ⊢
  have hP : va_P (dC, dI) vwCl [(qb, .inl (cb, 512, .inl (fun _ => 0))), (qt, .inr (5, [.ref q7, .int 0, .int 0, .int 0, .int 0, .int 0])), (qp, .inr (7, [.ref q10, .ref q11, .int 0, .int 0])), (mo, .inr (8, fs)), (rt, .inl (ct, 26, .inl (fun _ => 0))), (rc, .inl (cc, 16384, .inl (fun _ => 0))), (ot, .inl (co, 1, .inr (.inl (fun _ => 0)))), (de, .inr (0, [.ref qb, .int 0, .int (-1), .int 0, .int 0, .null, .ref qm, .ref qe, .ref qo, .ref qi, .ref qw, .ref qt, .ref qs, .ref qp])), (qm, .inl (cm, 26, .inr (.inr (.inr (.inr (fun _ => none))))))] H := hP
  have hD : va_D (fun q : Nat => s.heap.size ≤ q) [(qb, .inl (cb, 512, .inl (fun _ => 0))), (qt, .inr (5, [.ref q7, .int 0, .int 0, .int 0, .int 0, .int 0])), (qp, .inr (7, [.ref q10, .ref q11, .int 0, .int 0])), (mo, .inr (8, fs)), (rt, .inl (ct, 26, .inl (fun _ => 0))), (rc, .inl (cc, 16384, .inl (fun _ => 0))), (ot, .inl (co, 1, .inr (.inl (fun _ => 0)))), (de, .inr (0, [.ref qb, .int 0, .int (-1), .int 0, .int 0, .null, .ref qm, .ref qe, .ref qo, .ref qi, .ref qw, .ref qt, .ref qs, .ref qp])), (qm, .inl (cm, 26, .inr (.inr (.inr (.inr (fun _ => none))))))] := hD
  subst hw_733
  refine lv_aload_n hx hb px_dL_736 rfl (lv_at hl 2 rfl) ?_
  refine lv_aload_n hx hb px_dL_737 rfl (lv_at hl 4 rfl) ?_
  refine lv_iload hx hb px_dL_738 (lv_at hl 0 rfl) ?_
  refine lv_iconst (v := 1) hx hb px_dL_740 (by decide) ?_
  refine lv_iadd hx hb px_dL_741 ?_
  refine lv_topi (nm_r (e' := (1 : Int32)) (by decide +kernel) ?_)
  refine va_sld hx hb hX hbl hbA hS (show vp_in (nI 1) 6 from vp_in_nI (by decide) (by decide)) px_dL_742 ?_
  refine lv_topi (nm_r (e' := xs 1) (congrArg xs (by decide +kernel)) ?_)
  refine lv_aload_n hx hb px_dL_743 rfl (lv_at hl 4 rfl) ?_
  refine lv_iload hx hb px_dL_744 (lv_at hl 0 rfl) ?_
  refine lv_iconst (v := 2) hx hb px_dL_746 (by decide) ?_
  refine lv_iadd hx hb px_dL_747 ?_
  refine lv_topi (nm_r (e' := (2 : Int32)) (by decide +kernel) ?_)
  refine va_sld hx hb hX hbl hbA hS (show vp_in (nI 2) 6 from vp_in_nI (by decide) (by decide)) px_dL_748 ?_
  refine lv_topi (nm_r (e' := xs 2) (congrArg xs (by decide +kernel)) ?_)
  have hPc := hP.sub (ws' := [(mo, .inr (8, fs)), (rt, .inl (ct, 26, .inl (fun _ => 0)))]) [3, 4] rfl
  have hDc := hD.sub (ws' := [(mo, .inr (8, fs)), (rt, .inl (ct, 26, .inl (fun _ => 0)))]) [3, 4] (by decide) rfl
  have hKc := hK.sub (tys' := [(ct, .boolean)]) [2] rfl
  have hFc := va_free (wc := [(mo, .inr (8, fs)), (rt, .inl (ct, 26, .inl (fun _ => 0)))]) hD hS hA [3, 4] rfl
  refine va_calli (va_runV (As := [.int (xs 1), .int (xs 2)]) (rest := [.int 2]) ⟨hx, hb, hml, hown, htw⟩ (px_M_sign l dC dI H.size mo fs rt ct (xs 1) (xs 2) hF.1 hF.2.1) (cwV 2 htw (px_gvl (List.mem_append_left _ px_v40) (List.mem_append_right _ px_w480) (List.mem_append_right _ px_w481) (List.mem_append_right _ px_w94) (px_gl px_g64)) rfl rfl rfl (by decide +kernel) ⟨Nat.le_of_ble_eq_true rfl, Nat.le_of_ble_eq_true rfl⟩) ⟨fun a U g mk q => by obtain ⟨q0, q1, qP, qK, qD, qN⟩ := q; exact ⟨q0, q1, qP, va_K.moved (u := U) (U := U.calling g mk a) (Vm.Alike.refl U.vm) qK, qD, qN.same rfl⟩, va_recv hK hP (ci := 8) (q0 := 3) rfl rfl, fun U hU hW => ⟨rfl, by rw [hU], by rw [hU]; exact hPc, va_K.moved hW.alike hKc, hDc.weaken (fun _ _ _ _ => trivial), hN.warm hW⟩⟩ rfl rfl hl.1 rfl (lv_room (Nat.le_of_ble_eq_true rfl)) px_dL_749 ⟨(Nat.le_of_ble_eq_true rfl), (Nat.le_of_ble_eq_true rfl)⟩) hS (fun q _ h => hFc q h) hFc (fun r u t H1 locs ht hvm hw_749 hB hz1 hk1 hS => ?_)
  obtain ⟨hP1, hK1, hD1⟩ := hB
  rw [ht] at hP1
  have hK1 := va_K.moved hvm.symm hK1
  obtain ⟨hP, hD⟩ := va_join (wr := [(qb, .inl (cb, 512, .inl (fun _ => 0))), (qt, .inr (5, [.ref q7, .int 0, .int 0, .int 0, .int 0, .int 0])), (qp, .inr (7, [.ref q10, .ref q11, .int 0, .int 0])), (rc, .inl (cc, 16384, .inl (fun _ => 0))), (ot, .inl (co, 1, .inr (.inl (fun _ => 0)))), (de, .inr (0, [.ref qb, .int 0, .int (-1), .int 0, .int 0, .null, .ref qm, .ref qe, .ref qo, .ref qi, .ref qw, .ref qt, .ref qs, .ref qp])), (qm, .inl (cm, 26, .inr (.inr (.inr (.inr (fun _ => none))))))]) (w1 := []) hP hD [3, 4] [0, 1, 2, 5, 6, 7, 8] rfl rfl (by decide) (by decide) hk1 hFc hP1 hD1
  generalize H1 = H at hP hS ⊢
  have hP : va_P (dC, dI) vwCl [(qb, .inl (cb, 512, .inl (fun _ => 0))), (qt, .inr (5, [.ref q7, .int 0, .int 0, .int 0, .int 0, .int 0])), (qp, .inr (7, [.ref q10, .ref q11, .int 0, .int 0])), (rc, .inl (cc, 16384, .inl (fun _ => 0))), (ot, .inl (co, 1, .inr (.inl (fun _ => 0)))), (de, .inr (0, [.ref qb, .int 0, .int (-1), .int 0, .int 0, .null, .ref qm, .ref qe, .ref qo, .ref qi, .ref qw, .ref qt, .ref qs, .ref qp])), (qm, .inl (cm, 26, .inr (.inr (.inr (.inr (fun _ => none))))))] H := hP
  have hD : va_D (fun q : Nat => s.heap.size ≤ q) [(qb, .inl (cb, 512, .inl (fun _ => 0))), (qt, .inr (5, [.ref q7, .int 0, .int 0, .int 0, .int 0, .int 0])), (qp, .inr (7, [.ref q10, .ref q11, .int 0, .int 0])), (rc, .inl (cc, 16384, .inl (fun _ => 0))), (ot, .inl (co, 1, .inr (.inl (fun _ => 0)))), (de, .inr (0, [.ref qb, .int 0, .int (-1), .int 0, .int 0, .null, .ref qm, .ref qe, .ref qo, .ref qi, .ref qw, .ref qt, .ref qs, .ref qp])), (qm, .inl (cm, 26, .inr (.inr (.inr (.inr (fun _ => none))))))] := hD
  subst hw_749
  refine lv_icmp_eq (tgt := 917) hx hb px_dL_752 (by decide) (fun _ => ?_) (fun h9 => absurd (by decide +kernel) h9)
  exact px_tail C0 (by decide) (by decide) hS (lv_sub hl [0, 4] rfl)
