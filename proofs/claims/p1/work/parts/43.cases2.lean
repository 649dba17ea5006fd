set_option maxHeartbeats 4000000 in
set_option maxRecDepth 100000 in
/-- case 10 of the law -/
theorem px_case10 {p : Program} {e : Env} {s : State} {m : MethodId} {below : List Frame} {meth : Method} {c : Code} {l : Launch} {b : Nat} {xs : Nat → Int32} (C0 : lw_At p s m meth c b 6 xs) {dC : Nat → ClassId} {dI : Nat → Nat → Nat} {de qb qm qe qo qi qw qt qs qp q7 q10 q11 mo rt rc ot : Nat} {cb cm ct cc co : ClassId} {fs : List Value} {H : Heap} {locs : List Loc} {ls : Array Slot} (hK : va_K (dC, dI) vwCl [(cb, .byte), (cm, .object "MatroidDesk$Matroid"), (ct, .boolean), (cc, .byte), (co, .long)] s) (hP : va_P (dC, dI) vwCl [(de, .inr (0, [.ref qb, .int 0, .int (-1), .int 0, .int 0, .null, .ref qm, .ref qe, .ref qo, .ref qi, .ref qw, .ref qt, .ref qs, .ref qp])), (qb, .inl (cb, 512, .inl (fun _ => 0))), (qm, .inl (cm, 26, .inr (.inr (.inr (.inr (fun _ => none)))))), (qt, .inr (5, [.ref q7, .int 0, .int 0, .int 0, .int 0, .int 0])), (qp, .inr (7, [.ref q10, .ref q11, .int 0, .int 0])), (mo, .inr (8, fs)), (rt, .inl (ct, 26, .inl (fun _ => 0))), (rc, .inl (cc, 16384, .inl (fun _ => 0))), (ot, .inl (co, 1, .inr (.inl (fun _ => 0))))] H) (hD : va_D (fun q : Nat => s.heap.size ≤ q) [(de, .inr (0, [.ref qb, .int 0, .int (-1), .int 0, .int 0, .null, .ref qm, .ref qe, .ref qo, .ref qi, .ref qw, .ref qt, .ref qs, .ref qp])), (qb, .inl (cb, 512, .inl (fun _ => 0))), (qm, .inl (cm, 26, .inr (.inr (.inr (.inr (fun _ => none)))))), (qt, .inr (5, [.ref q7, .int 0, .int 0, .int 0, .int 0, .int 0])), (qp, .inr (7, [.ref q10, .ref q11, .int 0, .int 0])), (mo, .inr (8, fs)), (rt, .inl (ct, 26, .inl (fun _ => 0))), (rc, .inl (cc, 16384, .inl (fun _ => 0))), (ot, .inl (co, 1, .inr (.inl (fun _ => 0))))]) (hS : va_S (fun q : Nat => s.heap.size ≤ q) s.heap H locs) (hN : px_N s) (hF : px_mdl fs rt rc) (hl : lv_has ls 7 [(4, .int 0), (3, .ref ot), (2, .ref mo), (1, .ref de), (0, .ref b)]) : W p l e room_1 s m #[Value.ref b] below meth c H locs 460 449508 (lw_Z below #[Value.ref b] s) (F0 m 448 ls []) := by
  obtain ⟨hx, hb, hr, hml, hown, hts, hX, hbl, hlocks, hgv⟩ := id C0
  have hown : s.vm.findClass "MatroidDeskLaw" = some m.cls := hown
  have htw : ∀ w ∈ px_tl, w.before _ s = true := fun w h => hts w (px_tl_in w h)
  have hA : ∀ q : Nat, s.heap.size ≤ q → (fun q : Nat => s.heap.size ≤ q) q := fun _ h => h
  have hbA : ¬ (fun q : Nat => s.heap.size ≤ q) b := Nat.not_le.mpr hbl
  refine lv_aload_n hx hb px_dL_448 rfl (lv_at hl 3 rfl) ?_
  refine lv_aload_n hx hb px_dL_449 rfl (lv_at hl 4 rfl) ?_
  refine lv_iload hx hb px_dL_450 (lv_at hl 0 rfl) ?_
  refine lv_iconst (v := 1) hx hb px_dL_452 (by decide) ?_
  refine lv_iadd hx hb px_dL_453 ?_
  refine lv_topi (nm_r (e' := (1 : Int32)) (by decide +kernel) ?_)
  refine va_sld hx hb hX hbl hbA hS (show vp_in (nI 1) 6 from vp_in_nI (by decide) (by decide)) px_dL_454 ?_
  refine lv_topi (nm_r (e' := xs 1) (congrArg xs (by decide +kernel)) ?_)
  refine lv_aload_n hx hb px_dL_455 rfl (lv_at hl 4 rfl) ?_
  refine lv_iload hx hb px_dL_456 (lv_at hl 0 rfl) ?_
  refine lv_iconst (v := 2) hx hb px_dL_458 (by decide) ?_
  refine lv_iadd hx hb px_dL_459 ?_
  refine lv_topi (nm_r (e' := (2 : Int32)) (by decide +kernel) ?_)
  refine va_sld hx hb hX hbl hbA hS (show vp_in (nI 2) 6 from vp_in_nI (by decide) (by decide)) px_dL_460 ?_
  refine lv_topi (nm_r (e' := xs 2) (congrArg xs (by decide +kernel)) ?_)
  have hPc := hP.sub (ws' := [(de, .inr (0, [.ref qb, .int 0, .int (-1), .int 0, .int 0, .null, .ref qm, .ref qe, .ref qo, .ref qi, .ref qw, .ref qt, .ref qs, .ref qp])), (qm, .inl (cm, 26, .inr (.inr (.inr (.inr (fun _ => none))))))]) [0, 2] rfl
  have hDc := hD.sub (ws' := [(de, .inr (0, [.ref qb, .int 0, .int (-1), .int 0, .int 0, .null, .ref qm, .ref qe, .ref qo, .ref qi, .ref qw, .ref qt, .ref qs, .ref qp])), (qm, .inl (cm, 26, .inr (.inr (.inr (.inr (fun _ => none))))))]) [0, 2] (by decide) rfl
  have hKc := hK.sub (tys' := [(cm, .object "MatroidDesk$Matroid")]) [1] rfl
  have hFc := va_free (wc := [(de, .inr (0, [.ref qb, .int 0, .int (-1), .int 0, .int 0, .null, .ref qm, .ref qe, .ref qo, .ref qi, .ref qw, .ref qt, .ref qs, .ref qp])), (qm, .inl (cm, 26, .inr (.inr (.inr (.inr (fun _ => none))))))]) hD hS hA [0, 2] rfl
  refine va_calli (va_runV (As := [.int (xs 1), .int (xs 2)]) (rest := []) ⟨hx, hb, hml, hown, htw⟩ (px_D_count l dC dI H.size de qb qm qe qo qi qw qt qs qp cm (xs 1) (xs 2)) (cwV 2 htw (px_gvl (List.mem_append_left _ px_v25) (List.mem_append_right _ px_w356) (List.mem_append_right _ px_w357) (List.mem_append_right _ px_w6) (px_gl px_g28)) rfl rfl rfl (by decide +kernel) ⟨Nat.le_of_ble_eq_true rfl, Nat.le_of_ble_eq_true rfl⟩) ⟨fun a U g mk q => by obtain ⟨q0, q1, qP, qK, qD, qN⟩ := q; exact ⟨q0, q1, qP, va_K.moved (u := U) (U := U.calling g mk a) (Vm.Alike.refl U.vm) qK, qD, qN.same rfl⟩, va_recv hK hP (ci := 0) (q0 := 0) rfl rfl, fun U hU hW => ⟨rfl, by rw [hU], by rw [hU]; exact hPc, va_K.moved hW.alike hKc, hDc.weaken (fun _ _ _ _ => trivial), hN.warm hW⟩⟩ rfl rfl hl.1 rfl (lv_room (Nat.le_of_ble_eq_true rfl)) px_dL_461 ⟨(Nat.le_of_ble_eq_true rfl), (Nat.le_of_ble_eq_true rfl)⟩) hS (fun q _ h => hFc q h) hFc (fun r u t H1 locs ht hvm hw_461 hB hz1 hk1 hS => ?_)
  obtain ⟨hP1, hK1, hD1⟩ := hB
  rw [ht] at hP1
  have hK1 := va_K.moved hvm.symm hK1
  obtain ⟨hP, hD⟩ := va_join (wr := [(qb, .inl (cb, 512, .inl (fun _ => 0))), (qt, .inr (5, [.ref q7, .int 0, .int 0, .int 0, .int 0, .int 0])), (qp, .inr (7, [.ref q10, .ref q11, .int 0, .int 0])), (mo, .inr (8, fs)), (rt, .inl (ct, 26, .inl (fun _ => 0))), (rc, .inl (cc, 16384, .inl (fun _ => 0))), (ot, .inl (co, 1, .inr (.inl (fun _ => 0))))]) (w1 := [(de, .inr (0, [.ref qb, .int 0, .int (-1), .int 0, .int 0, .null, .ref qm, .ref qe, .ref qo, .ref qi, .ref qw, .ref qt, .ref qs, .ref qp])), (qm, .inl (cm, 26, .inr (.inr (.inr (.inr (fun _ => none))))))]) hP hD [0, 2] [1, 3, 4, 5, 6, 7, 8] rfl rfl (by decide) (by decide) hk1 hFc hP1 hD1
  generalize H1 = H at hP hS ⊢
  have hP : va_P (dC, dI) vwCl [(qb, .inl (cb, 512, .inl (fun _ => 0))), (qt, .inr (5, [.ref q7, .int 0, .int 0, .int 0, .int 0, .int 0])), (qp, .inr (7, [.ref q10, .ref q11, .int 0, .int 0])), (mo, .inr (8, fs)), (rt, .inl (ct, 26, .inl (fun _ => 0))), (rc, .inl (cc, 16384, .inl (fun _ => 0))), (ot, .inl (co, 1, .inr (.inl (fun _ => 0)))), (de, .inr (0, [.ref qb, .int 0, .int (-1), .int 0, .int 0, .null, .ref qm, .ref qe, .ref qo, .ref qi, .ref qw, .ref qt, .ref qs, .ref qp])), (qm, .inl (cm, 26, .inr (.inr (.inr (.inr (fun _ => none))))))] H := hP
  have hD : va_D (fun q : Nat => s.heap.size ≤ q) [(qb, .inl (cb, 512, .inl (fun _ => 0))), (qt, .inr (5, [.ref q7, .int 0, .int 0, .int 0, .int 0, .int 0])), (qp, .inr (7, [.ref q10, .ref q11, .int 0, .int 0])), (mo, .inr (8, fs)), (rt, .inl (ct, 26, .inl (fun _ => 0))), (rc, .inl (cc, 16384, .inl (fun _ => 0))), (ot, .inl (co, 1, .inr (.inl (fun _ => 0)))), (de, .inr (0, [.ref qb, .int 0, .int (-1), .int 0, .int 0, .null, .ref qm, .ref qe, .ref qo, .ref qi, .ref qw, .ref qt, .ref qs, .ref qp])), (qm, .inl (cm, 26, .inr (.inr (.inr (.inr (fun _ => none))))))] := hD
  subst hw_461
  refine lv_aload_n hx hb px_dL_464 rfl (lv_at hl 2 rfl) ?_
  refine lv_aload_n hx hb px_dL_465 rfl (lv_at hl 4 rfl) ?_
  refine lv_iload hx hb px_dL_466 (lv_at hl 0 rfl) ?_
  refine lv_iconst (v := 1) hx hb px_dL_468 (by decide) ?_
  refine lv_iadd hx hb px_dL_469 ?_
  refine lv_topi (nm_r (e' := (1 : Int32)) (by decide +kernel) ?_)
  refine va_sld hx hb hX hbl hbA hS (show vp_in (nI 1) 6 from vp_in_nI (by decide) (by decide)) px_dL_470 ?_
  refine lv_topi (nm_r (e' := xs 1) (congrArg xs (by decide +kernel)) ?_)
  refine lv_aload_n hx hb px_dL_471 rfl (lv_at hl 4 rfl) ?_
  refine lv_iload hx hb px_dL_472 (lv_at hl 0 rfl) ?_
  refine lv_iconst (v := 2) hx hb px_dL_474 (by decide) ?_
  refine lv_iadd hx hb px_dL_475 ?_
  refine lv_topi (nm_r (e' := (2 : Int32)) (by decide +kernel) ?_)
  refine va_sld hx hb hX hbl hbA hS (show vp_in (nI 2) 6 from vp_in_nI (by decide) (by decide)) px_dL_476 ?_
  refine lv_topi (nm_r (e' := xs 2) (congrArg xs (by decide +kernel)) ?_)
  have hPc := hP.sub (ws' := [(mo, .inr (8, fs)), (rt, .inl (ct, 26, .inl (fun _ => 0)))]) [3, 4] rfl
  have hDc := hD.sub (ws' := [(mo, .inr (8, fs)), (rt, .inl (ct, 26, .inl (fun _ => 0)))]) [3, 4] (by decide) rfl
  have hKc := hK.sub (tys' := [(ct, .boolean)]) [2] rfl
  have hFc := va_free (wc := [(mo, .inr (8, fs)), (rt, .inl (ct, 26, .inl (fun _ => 0)))]) hD hS hA [3, 4] rfl
  refine va_calli (va_runV (As := [.int (xs 1), .int (xs 2)]) (rest := [.int (-1)]) ⟨hx, hb, hml, hown, htw⟩ (px_M_count l dC dI H.size mo fs rt ct (xs 1) (xs 2) hF.1 hF.2.1) (cwV 2 htw (px_gvl (List.mem_append_left _ px_v26) (List.mem_append_right _ px_w459) (List.mem_append_right _ px_w460) (List.mem_append_right _ px_w94) (px_gl px_g57)) rfl rfl rfl (by decide +kernel) ⟨Nat.le_of_ble_eq_true rfl, Nat.le_of_ble_eq_true rfl⟩) ⟨fun a U g mk q => by obtain ⟨q0, q1, qP, qK, qD, qN⟩ := q; exact ⟨q0, q1, qP, va_K.moved (u := U) (U := U.calling g mk a) (Vm.Alike.refl U.vm) qK, qD, qN.same rfl⟩, va_recv hK hP (ci := 8) (q0 := 3) rfl rfl, fun U hU hW => ⟨rfl, by rw [hU], by rw [hU]; exact hPc, va_K.moved hW.alike hKc, hDc.weaken (fun _ _ _ _ => trivial), hN.warm hW⟩⟩ rfl rfl hl.1 rfl (lv_room (Nat.le_of_ble_eq_true rfl)) px_dL_477 ⟨(Nat.le_of_ble_eq_true rfl), (Nat.le_of_ble_eq_true rfl)⟩) hS (fun q _ h => hFc q h) hFc (fun r u t H1 locs ht hvm hw_477 hB hz1 hk1 hS => ?_)
  obtain ⟨hP1, hK1, hD1⟩ := hB
  rw [ht] at hP1
  have hK1 := va_K.moved hvm.symm hK1
  obtain ⟨hP, hD⟩ := va_join (wr := [(qb, .inl (cb, 512, .inl (fun _ => 0))), (qt, .inr (5, [.ref q7, .int 0, .int 0, .int 0, .int 0, .int 0])), (qp, .inr (7, [.ref q10, .ref q11, .int 0, .int 0])), (rc, .inl (cc, 16384, .inl (fun _ => 0))), (ot, .inl (co, 1, .inr (.inl (fun _ => 0)))), (de, .inr (0, [.ref qb, .int 0, .int (-1), .int 0, .int 0, .null, .ref qm, .ref qe, .ref qo, .ref qi, .ref qw, .ref qt, .ref qs, .ref qp])), (qm, .inl (cm, 26, .inr (.inr (.inr (.inr (fun _ => none))))))]) (w1 := []) hP hD [3, 4] [0, 1, 2, 5, 6, 7, 8] rfl rfl (by decide) (by decide) hk1 hFc hP1 hD1
  generalize H1 = H at hP hS ⊢
  have hP : va_P (dC, dI) vwCl [(qb, .inl (cb, 512, .inl (fun _ => 0))), (qt, .inr (5, [.ref q7, .int 0, .int 0, .int 0, .int 0, .int 0])), (qp, .inr (7, [.ref q10, .ref q11, .int 0, .int 0])), (rc, .inl (cc, 16384, .inl (fun _ => 0))), (ot, .inl (co, 1, .inr (.inl (fun _ => 0)))), (de, .inr (0, [.ref qb, .int 0, .int (-1), .int 0, .int 0, .null, .ref qm, .ref qe, .ref qo, .ref qi, .ref qw, .ref qt, .ref qs, .ref qp])), (qm, .inl (cm, 26, .inr (.inr (.inr (.inr (fun _ => none))))))] H := hP
  have hD : va_D (fun q : Nat => s.heap.size ≤ q) [(qb, .inl (cb, 512, .inl (fun _ => 0))), (qt, .inr (5, [.ref q7, .int 0, .int 0, .int 0, .int 0, .int 0])), (qp, .inr (7, [.ref q10, .ref q11, .int 0, .int 0])), (rc, .inl (cc, 16384, .inl (fun _ => 0))), (ot, .inl (co, 1, .inr (.inl (fun _ => 0)))), (de, .inr (0, [.ref qb, .int 0, .int (-1), .int 0, .int 0, .null, .ref qm, .ref qe, .ref qo, .ref qi, .ref qw, .ref qt, .ref qs, .ref qp])), (qm, .inl (cm, 26, .inr (.inr (.inr (.inr (fun _ => none))))))] := hD
  subst hw_477
  refine lv_icmp_eq (tgt := 917) hx hb px_dL_480 (by decide) (fun _ => ?_) (fun h9 => absurd (by decide +kernel) h9)
  exact px_tail C0 (by decide) (by decide) hS (lv_sub hl [0, 4] rfl)
set_option maxHeartbeats 4000000 in
set_option maxRecDepth 100000 in
/-- case 11 of the law -/
theorem px_case11 {p : Program} {e : Env} {s : State} {m : MethodId} {below : List Frame} {meth : Method} {c : Code} {l : Launch} {b : Nat} {xs : Nat → Int32} (C0 : lw_At p s m meth c b 6 xs) {dC : Nat → ClassId} {dI : Nat → Nat → Nat} {de qb qm qe qo qi qw qt qs qp q7 q10 q11 mo rt rc ot : Nat} {cb cm ct cc co : ClassId} {fs : List Value} {H : Heap} {locs : List Loc} {ls : Array Slot} (hK : va_K (dC, dI) vwCl [(cb, .byte), (cm, .object "MatroidDesk$Matroid"), (ct, .boolean), (cc, .byte), (co, .long)] s) (hP : va_P (dC, dI) vwCl [(de, .inr (0, [.ref qb, .int 0, .int (-1), .int 0, .int 0, .null, .ref qm, .ref qe, .ref qo, .ref qi, .ref qw, .ref qt, .ref qs, .ref qp])), (qb, .inl (cb, 512, .inl (fun _ => 0))), (qm, .inl (cm, 26, .inr (.inr (.inr (.inr (fun _ => none)))))), (qt, .inr (5, [.ref q7, .int 0, .int 0, .int 0, .int 0, .int 0])), (qp, .inr (7, [.ref q10, .ref q11, .int 0, .int 0])), (mo, .inr (8, fs)), (rt, .inl (ct, 26, .inl (fun _ => 0))), (rc, .inl (cc, 16384, .inl (fun _ => 0))), (ot, .inl (co, 1, .inr (.inl (fun _ => 0))))] H) (hD : va_D (fun q : Nat => s.heap.size ≤ q) [(de, .inr (0, [.ref qb, .int 0, .int (-1), .int 0, .int 0, .null, .ref qm, .ref qe, .ref qo, .ref qi, .ref qw, .ref qt, .ref qs, .ref qp])), (qb, .inl (cb, 512, .inl (fun _ => 0))), (qm, .inl (cm, 26, .inr (.inr (.inr (.inr (fun _ => none)))))), (qt, .inr (5, [.ref q7, .int 0, .int 0, .int 0, .int 0, .int 0])), (qp, .inr (7, [.ref q10, .ref q11, .int 0, .int 0])), (mo, .inr (8, fs)), (rt, .inl (ct, 26, .inl (fun _ => 0))), (rc, .inl (cc, 16384, .inl (fun _ => 0))), (ot, .inl (co, 1, .inr (.inl (fun _ => 0))))]) (hS : va_S (fun q : Nat => s.heap.size ≤ q) s.heap H locs) (hN : px_N s) (hF : px_mdl fs rt rc) (hl : lv_has ls 7 [(4, .int 0), (3, .ref ot), (2, .ref mo), (1, .ref de), (0, .ref b)]) : W p l e room_1 s m #[Value.ref b] below meth c H locs 460 449508 (lw_Z below #[Value.ref b] s) (F0 m 485 ls []) := by
  obtain ⟨hx, hb, hr, hml, hown, hts, hX, hbl, hlocks, hgv⟩ := id C0
  have hown : s.vm.findClass "MatroidDeskLaw" = some m.cls := hown
  have htw : ∀ w ∈ px_tl, w.before _ s = true := fun w h => hts w (px_tl_in w h)
  have hA : ∀ q : Nat, s.heap.size ≤ q → (fun q : Nat => s.heap.size ≤ q) q := fun _ h => h
  have hbA : ¬ (fun q : Nat => s.heap.size ≤ q) b := Nat.not_le.mpr hbl
  refine lv_aload_n hx hb px_dL_485 rfl (lv_at hl 3 rfl) ?_
  refine lv_aload_n hx hb px_dL_486 rfl (lv_at hl 4 rfl) ?_
  refine lv_iload hx hb px_dL_487 (lv_at hl 0 rfl) ?_
  refine lv_iconst (v := 1) hx hb px_dL_489 (by decide) ?_
  refine lv_iadd hx hb px_dL_490 ?_
  refine lv_topi (nm_r (e' := (1 : Int32)) (by decide +kernel) ?_)
  refine va_sld hx hb hX hbl hbA hS (show vp_in (nI 1) 6 from vp_in_nI (by decide) (by decide)) px_dL_491 ?_
  refine lv_topi (nm_r (e' := xs 1) (congrArg xs (by decide +kernel)) ?_)
  refine lv_aload_n hx hb px_dL_492 rfl (lv_at hl 4 rfl) ?_
  refine lv_iload hx hb px_dL_493 (lv_at hl 0 rfl) ?_
  refine lv_iconst (v := 2) hx hb px_dL_495 (by decide) ?_
  refine lv_iadd hx hb px_dL_496 ?_
  refine lv_topi (nm_r (e' := (2 : Int32)) (by decide +kernel) ?_)
  refine va_sld hx hb hX hbl hbA hS (show vp_in (nI 2) 6 from vp_in_nI (by decide) (by decide)) px_dL_497 ?_
  refine lv_topi (nm_r (e' := xs 2) (congrArg xs (by decide +kernel)) ?_)
  refine lv_aload_n hx hb px_dL_498 rfl (lv_at hl 4 rfl) ?_
  refine lv_iload hx hb px_dL_499 (lv_at hl 0 rfl) ?_
  refine lv_iconst (v := 3) hx hb px_dL_501 (by decide) ?_
  refine lv_iadd hx hb px_dL_502 ?_
  refine lv_topi (nm_r (e' := (3 : Int32)) (by decide +kernel) ?_)
  refine va_sld hx hb hX hbl hbA hS (show vp_in (nI 3) 6 from vp_in_nI (by decide) (by decide)) px_dL_503 ?_
  refine lv_topi (nm_r (e' := xs 3) (congrArg xs (by decide +kernel)) ?_)
  have hPc := hP.sub (ws' := [(de, .inr (0, [.ref qb, .int 0, .int (-1), .int 0, .int 0, .null, .ref qm, .ref qe, .ref qo, .ref qi, .ref qw, .ref qt, .ref qs, .ref qp])), (qm, .inl (cm, 26, .inr (.inr (.inr (.inr (fun _ => none))))))]) [0, 2] rfl
  have hDc := hD.sub (ws' := [(de, .inr (0, [.ref qb, .int 0, .int (-1), .int 0, .int 0, .null, .ref qm, .ref qe, .ref qo, .ref qi, .ref qw, .ref qt, .ref qs, .ref qp])), (qm, .inl (cm, 26, .inr (.inr (.inr (.inr (fun _ => none))))))]) [0, 2] (by decide) rfl
  have hKc := hK.sub (tys' := [(cm, .object "MatroidDesk$Matroid")]) [1] rfl
  have hFc := va_free (wc := [(de, .inr (0, [.ref qb, .int 0, .int (-1), .int 0, .int 0, .null, .ref qm, .ref qe, .ref qo, .ref qi, .ref qw, .ref qt, .ref qs, .ref qp])), (qm, .inl (cm, 26, .inr (.inr (.inr (.inr (fun _ => none))))))]) hD hS hA [0, 2] rfl
  refine va_calli (va_runV (As := [.int (xs 1), .int (xs 2), .int (xs 3)]) (rest := []) ⟨hx, hb, hml, hown, htw⟩ (px_D_member l dC dI H.size de qb qm qe qo qi qw qt qs qp cm (xs 1) (xs 2) (xs 3)) (cwV 3 htw (px_gvl (List.mem_append_left _ px_v27) (List.mem_append_right _ px_w359) (List.mem_append_right _ px_w360) (List.mem_append_right _ px_w6) (px_gl px_g29)) rfl rfl rfl (by decide +kernel) ⟨Nat.le_of_ble_eq_true rfl, Nat.le_of_ble_eq_true rfl⟩) ⟨fun a U g mk q => by obtain ⟨q0, q1, qP, qK, qD, qN⟩ := q; exact ⟨q0, q1, qP, va_K.moved (u := U) (U := U.calling g mk a) (Vm.Alike.refl U.vm) qK, qD, qN.same rfl⟩, va_recv hK hP (ci := 0) (q0 := 0) rfl rfl, fun U hU hW => ⟨rfl, by rw [hU], by rw [hU]; exact hPc, va_K.moved hW.alike hKc, hDc.weaken (fun _ _ _ _ => trivial), hN.warm hW⟩⟩ rfl rfl hl.1 rfl (lv_room (Nat.le_of_ble_eq_true rfl)) px_dL_504 ⟨(Nat.le_of_ble_eq_true rfl), (Nat.le_of_ble_eq_true rfl)⟩) hS (fun q _ h => hFc q h) hFc (fun r u t H1 locs ht hvm hw_504 hB hz1 hk1 hS => ?_)
  obtain ⟨hP1, hK1, hD1⟩ := hB
  rw [ht] at hP1
  have hK1 := va_K.moved hvm.symm hK1
  obtain ⟨hP, hD⟩ := va_join (wr := [(qb, .inl (cb, 512, .inl (fun _ => 0))), (qt, .inr (5, [.ref q7, .int 0, .int 0, .int 0, .int 0, .int 0])), (qp, .inr (7, [.ref q10, .ref q11, .int 0, .int 0])), (mo, .inr (8, fs)), (rt, .inl (ct, 26, .inl (fun _ => 0))), (rc, .inl (cc, 16384, .inl (fun _ => 0))), (ot, .inl (co, 1, .inr (.inl (fun _ => 0))))]) (w1 := [(de, .inr (0, [.ref qb, .int 0, .int (-1), .int 0, .int 0, .null, .ref qm, .ref qe, .ref qo, .ref qi, .ref qw, .ref qt, .ref qs, .ref qp])), (qm, .inl (cm, 26, .inr (.inr (.inr (.inr (fun _ => none))))))]) hP hD [0, 2] [1, 3, 4, 5, 6, 7, 8] rfl rfl (by decide) (by decide) hk1 hFc hP1 hD1
  generalize H1 = H at hP hS ⊢
  have hP : va_P (dC, dI) vwCl [(qb, .inl (cb, 512, .inl (fun _ => 0))), (qt, .inr (5, [.ref q7, .int 0, .int 0, .int 0, .int 0, .int 0])), (qp, .inr (7, [.ref q10, .ref q11, .int 0, .int 0])), (mo, .inr (8, fs)), (rt, .inl (ct, 26, .inl (fun _ => 0))), (rc, .inl (cc, 16384, .inl (fun _ => 0))), (ot, .inl (co, 1, .inr (.inl (fun _ => 0)))), (de, .inr (0, [.ref qb, .int 0, .int (-1), .int 0, .int 0, .null, .ref qm, .ref qe, .ref qo, .ref qi, .ref qw, .ref qt, .ref qs, .ref qp])), (qm, .inl (cm, 26, .inr (.inr (.inr (.inr (fun _ => none))))))] H := hP
  have hD : va_D (fun q : Nat => s.heap.size ≤ q) [(qb, .inl (cb, 512, .inl (fun _ => 0))), (qt, .inr (5, [.ref q7, .int 0, .int 0, .int 0, .int 0, .int 0])), (qp, .inr (7, [.ref q10, .ref q11, .int 0, .int 0])), (mo, .inr (8, fs)), (rt, .inl (ct, 26, .inl (fun _ => 0))), (rc, .inl (cc, 16384, .inl (fun _ => 0))), (ot, .inl (co, 1, .inr (.inl (fun _ => 0)))), (de, .inr (0, [.ref qb, .int 0, .int (-1), .int 0, .int 0, .null, .ref qm, .ref qe, .ref qo, .ref qi, .ref qw, .ref qt, .ref qs, .ref qp])), (qm, .inl (cm, 26, .inr (.inr (.inr (.inr (fun _ => none))))))] := hD
  subst hw_504
  refine lv_aload_n hx hb px_dL_507 rfl (lv_at hl 2 rfl) ?_
  refine lv_aload_n hx hb px_dL_508 rfl (lv_at hl 4 rfl) ?_
  refine lv_iload hx hb px_dL_509 (lv_at hl 0 rfl) ?_
  refine lv_iconst (v := 1) hx hb px_dL_511 (by decide) ?_
  refine lv_iadd hx hb px_dL_512 ?_
  refine lv_topi (nm_r (e' := (1 : Int32)) (by decide +kernel) ?_)
  refine va_sld hx hb hX hbl hbA hS (show vp_in (nI 1) 6 from vp_in_nI (by decide) (by decide)) px_dL_513 ?_
  refine lv_topi (nm_r (e' := xs 1) (congrArg xs (by decide +kernel)) ?_)
  refine lv_aload_n hx hb px_dL_514 rfl (lv_at hl 4 rfl) ?_
  refine lv_iload hx hb px_dL_515 (lv_at hl 0 rfl) ?_
  refine lv_iconst (v := 2) hx hb px_dL_517 (by decide) ?_
  refine lv_iadd hx hb px_dL_518 ?_
  refine lv_topi (nm_r (e' := (2 : Int32)) (by decide +kernel) ?_)
  refine va_sld hx hb hX hbl hbA hS (show vp_in (nI 2) 6 from vp_in_nI (by decide) (by decide)) px_dL_519 ?_
  refine lv_topi (nm_r (e' := xs 2) (congrArg xs (by decide +kernel)) ?_)
  refine lv_aload_n hx hb px_dL_520 rfl (lv_at hl 4 rfl) ?_
  refine lv_iload hx hb px_dL_521 (lv_at hl 0 rfl) ?_
  refine lv_iconst (v := 3) hx hb px_dL_523 (by decide) ?_
  refine lv_iadd hx hb px_dL_524 ?_
  refine lv_topi (nm_r (e' := (3 : Int32)) (by decide +kernel) ?_)
  refine va_sld hx hb hX hbl hbA hS (show vp_in (nI 3) 6 from vp_in_nI (by decide) (by decide)) px_dL_525 ?_
  refine lv_topi (nm_r (e' := xs 3) (congrArg xs (by decide +kernel)) ?_)
  have hPc := hP.sub (ws' := [(mo, .inr (8, fs)), (rt, .inl (ct, 26, .inl (fun _ => 0)))]) [3, 4] rfl
  have hDc := hD.sub (ws' := [(mo, .inr (8, fs)), (rt, .inl (ct, 26, .inl (fun _ => 0)))]) [3, 4] (by decide) rfl
  have hKc := hK.sub (tys' := [(ct, .boolean)]) [2] rfl
  have hFc := va_free (wc := [(mo, .inr (8, fs)), (rt, .inl (ct, 26, .inl (fun _ => 0)))]) hD hS hA [3, 4] rfl
  refine va_calli (va_runV (As := [.int (xs 1), .int (xs 2), .int (xs 3)]) (rest := [.int (-1)]) ⟨hx, hb, hml, hown, htw⟩ (px_M_member l dC dI H.size mo fs rt ct (xs 1) (xs 2) (xs 3) hF.1 hF.2.1) (cwV 3 htw (px_gvl (List.mem_append_left _ px_v28) (List.mem_append_right _ px_w462) (List.mem_append_right _ px_w463) (List.mem_append_right _ px_w94) (px_gl px_g58)) rfl rfl rfl (by decide +kernel) ⟨Nat.le_of_ble_eq_true rfl, Nat.le_of_ble_eq_true rfl⟩) ⟨fun a U g mk q => by obtain ⟨q0, q1, qP, qK, qD, qN⟩ := q; exact ⟨q0, q1, qP, va_K.moved (u := U) (U := U.calling g mk a) (Vm.Alike.refl U.vm) qK, qD, qN.same rfl⟩, va_recv hK hP (ci := 8) (q0 := 3) rfl rfl, fun U hU hW => ⟨rfl, by rw [hU], by rw [hU]; exact hPc, va_K.moved hW.alike hKc, hDc.weaken (fun _ _ _ _ => trivial), hN.warm hW⟩⟩ rfl rfl hl.1 rfl (lv_room (Nat.le_of_ble_eq_true rfl)) px_dL_526 ⟨(Nat.le_of_ble_eq_true rfl), (Nat.le_of_ble_eq_true rfl)⟩) hS (fun q _ h => hFc q h) hFc (fun r u t H1 locs ht hvm hw_526 hB hz1 hk1 hS => ?_)
  obtain ⟨hP1, hK1, hD1⟩ := hB
  rw [ht] at hP1
  have hK1 := va_K.moved hvm.symm hK1
  obtain ⟨hP, hD⟩ := va_join (wr := [(qb, .inl (cb, 512, .inl (fun _ => 0))), (qt, .inr (5, [.ref q7, .int 0, .int 0, .int 0, .int 0, .int 0])), (qp, .inr (7, [.ref q10, .ref q11, .int 0, .int 0])), (rc, .inl (cc, 16384, .inl (fun _ => 0))), (ot, .inl (co, 1, .inr (.inl (fun _ => 0)))), (de, .inr (0, [.ref qb, .int 0, .int (-1), .int 0, .int 0, .null, .ref qm, .ref qe, .ref qo, .ref qi, .ref qw, .ref qt, .ref qs, .ref qp])), (qm, .inl (cm, 26, .inr (.inr (.inr (.inr (fun _ => none))))))]) (w1 := []) hP hD [3, 4] [0, 1, 2, 5, 6, 7, 8] rfl rfl (by decide) (by decide) hk1 hFc hP1 hD1
  generalize H1 = H at hP hS ⊢
  have hP : va_P (dC, dI) vwCl [(qb, .inl (cb, 512, .inl (fun _ => 0))), (qt, .inr (5, [.ref q7, .int 0, .int 0, .int 0, .int 0, .int 0])), (qp, .inr (7, [.ref q10, .ref q11, .int 0, .int 0])), (rc, .inl (cc, 16384, .inl (fun _ => 0))), (ot, .inl (co, 1, .inr (.inl (fun _ => 0)))), (de, .inr (0, [.ref qb, .int 0, .int (-1), .int 0, .int 0, .null, .ref qm, .ref qe, .ref qo, .ref qi, .ref qw, .ref qt, .ref qs, .ref qp])), (qm, .inl (cm, 26, .inr (.inr (.inr (.inr (fun _ => none))))))] H := hP
  have hD : va_D (fun q : Nat => s.heap.size ≤ q) [(qb, .inl (cb, 512, .inl (fun _ => 0))), (qt, .inr (5, [.ref q7, .int 0, .int 0, .int 0, .int 0, .int 0])), (qp, .inr (7, [.ref q10, .ref q11, .int 0, .int 0])), (rc, .inl (cc, 16384, .inl (fun _ => 0))), (ot, .inl (co, 1, .inr (.inl (fun _ => 0)))), (de, .inr (0, [.ref qb, .int 0, .int (-1), .int 0, .int 0, .null, .ref qm, .ref qe, .ref qo, .ref qi, .ref qw, .ref qt, .ref qs, .ref qp])), (qm, .inl (cm, 26, .inr (.inr (.inr (.inr (fun _ => none))))))] := hD
  subst hw_526
  refine lv_icmp_eq (tgt := 917) hx hb px_dL_529 (by decide) (fun _ => ?_) (fun h9 => absurd (by decide +kernel) h9)
  exact px_tail C0 (by decide) (by decide) hS (lv_sub hl [0, 4] rfl)
set_option maxHeartbeats 4000000 in
set_option maxRecDepth 100000 in
/-- case 12 of the law -/
theorem px_case12 {p : Program} {e : Env} {s : State} {m : MethodId} {below : List Frame} {meth : Method} {c : Code} {l : Launch} {b : Nat} {xs : Nat → Int32} (C0 : lw_At p s m meth c b 6 xs) {dC : Nat → ClassId} {dI : Nat → Nat → Nat} {de qb qm qe qo qi qw qt qs qp q7 q10 q11 mo rt rc ot : Nat} {cb cm ct cc co : ClassId} {fs : List Value} {H : Heap} {locs : List Loc} {ls : Array Slot} (hK : va_K (dC, dI) vwCl [(cb, .byte), (cm, .object "MatroidDesk$Matroid"), (ct, .boolean), (cc, .byte), (co, .long)] s) (hP : va_P (dC, dI) vwCl [(de, .inr (0, [.ref qb, .int 0, .int (-1), .int 0, .int 0, .null, .ref qm, .ref qe, .ref qo, .ref qi, .ref qw, .ref qt, .ref qs, .ref qp])), (qb, .inl (cb, 512, .inl (fun _ => 0))), (qm, .inl (cm, 26, .inr (.inr (.inr (.inr (fun _ => none)))))), (qt, .inr (5, [.ref q7, .int 0, .int 0, .int 0, .int 0, .int 0])), (qp, .inr (7, [.ref q10, .ref q11, .int 0, .int 0])), (mo, .inr (8, fs)), (rt, .inl (ct, 26, .inl (fun _ => 0))), (rc, .inl (cc, 16384, .inl (fun _ => 0))), (ot, .inl (co, 1, .inr (.inl (fun _ => 0))))] H) (hD : va_D (fun q : Nat => s.heap.size ≤ q) [(de, .inr (0, [.ref qb, .int 0, .int (-1), .int 0, .int 0, .null, .ref qm, .ref qe, .ref qo, .ref qi, .ref qw, .ref qt, .ref qs, .ref qp])), (qb, .inl (cb, 512, .inl (fun _ => 0))), (qm, .inl (cm, 26, .inr (.inr (.inr (.inr (fun _ => none)))))), (qt, .inr (5, [.ref q7, .int 0, .int 0, .int 0, .int 0, .int 0])), (qp, .inr (7, [.ref q10, .ref q11, .int 0, .int 0])), (mo, .inr (8, fs)), (rt, .inl (ct, 26, .inl (fun _ => 0))), (rc, .inl (cc, 16384, .inl (fun _ => 0))), (ot, .inl (co, 1, .inr (.inl (fun _ => 0))))]) (hS : va_S (fun q : Nat => s.heap.size ≤ q) s.heap H locs) (hN : px_N s) (hF : px_mdl fs rt rc) (hl : lv_has ls 7 [(4, .int 0), (3, .ref ot), (2, .ref mo), (1, .ref de), (0, .ref b)]) : W p l e room_1 s m #[Value.ref b] below meth c H locs 460 449508 (lw_Z below #[Value.ref b] s) (F0 m 534 ls []) := by
  obtain ⟨hx, hb, hr, hml, hown, hts, hX, hbl, hlocks, hgv⟩ := id C0
  have hown : s.vm.findClass "MatroidDeskLaw" = some m.cls := hown
  have htw : ∀ w ∈ px_tl, w.before _ s = true := fun w h => hts w (px_tl_in w h)
  have hA : ∀ q : Nat, s.heap.size ≤ q → (fun q : Nat => s.heap.size ≤ q) q := fun _ h => h
  have hbA : ¬ (fun q : Nat => s.heap.size ≤ q) b := Nat.not_le.mpr hbl
  refine lv_aload_n hx hb px_dL_534 rfl (lv_at hl 3 rfl) ?_
  refine lv_aload_n hx hb px_dL_535 rfl (lv_at hl 4 rfl) ?_
  refine lv_iload hx hb px_dL_536 (lv_at hl 0 rfl) ?_
  refine lv_iconst (v := 1) hx hb px_dL_538 (by decide) ?_
  refine lv_iadd hx hb px_dL_539 ?_
  refine lv_topi (nm_r (e' := (1 : Int32)) (by decide +kernel) ?_)
  refine va_sld hx hb hX hbl hbA hS (show vp_in (nI 1) 6 from vp_in_nI (by decide) (by decide)) px_dL_540 ?_
  refine lv_topi (nm_r (e' := xs 1) (congrArg xs (by decide +kernel)) ?_)
  refine lv_aload_n hx hb px_dL_541 rfl (lv_at hl 4 rfl) ?_
  refine lv_iload hx hb px_dL_542 (lv_at hl 0 rfl) ?_
  refine lv_iconst (v := 2) hx hb px_dL_544 (by decide) ?_
  refine lv_iadd hx hb px_dL_545 ?_
  refine lv_topi (nm_r (e' := (2 : Int32)) (by decide +kernel) ?_)
  refine va_sld hx hb hX hbl hbA hS (show vp_in (nI 2) 6 from vp_in_nI (by decide) (by decide)) px_dL_546 ?_
  refine lv_topi (nm_r (e' := xs 2) (congrArg xs (by decide +kernel)) ?_)
  refine lv_aload_n hx hb px_dL_547 rfl (lv_at hl 4 rfl) ?_
  refine lv_iload hx hb px_dL_548 (lv_at hl 0 rfl) ?_
  refine lv_iconst (v := 3) hx hb px_dL_550 (by decide) ?_
  refine lv_iadd hx hb px_dL_551 ?_
  refine lv_topi (nm_r (e' := (3 : Int32)) (by decide +kernel) ?_)
  refine va_sld hx hb hX hbl hbA hS (show vp_in (nI 3) 6 from vp_in_nI (by decide) (by decide)) px_dL_552 ?_
  refine lv_topi (nm_r (e' := xs 3) (congrArg xs (by decide +kernel)) ?_)
  have hPc := hP.sub (ws' := [(de, .inr (0, [.ref qb, .int 0, .int (-1), .int 0, .int 0, .null, .ref qm, .ref qe, .ref qo, .ref qi, .ref qw, .ref qt, .ref qs, .ref qp])), (qm, .inl (cm, 26, .inr (.inr (.inr (.inr (fun _ => none))))))]) [0, 2] rfl
  have hDc := hD.sub (ws' := [(de, .inr (0, [.ref qb, .int 0, .int (-1), .int 0, .int 0, .null, .ref qm, .ref qe, .ref qo, .ref qi, .ref qw, .ref qt, .ref qs, .ref qp])), (qm, .inl (cm, 26, .inr (.inr (.inr (.inr (fun _ => none))))))]) [0, 2] (by decide) rfl
  have hKc := hK.sub (tys' := [(cm, .object "MatroidDesk$Matroid")]) [1] rfl
  have hFc := va_free (wc := [(de, .inr (0, [.ref qb, .int 0, .int (-1), .int 0, .int 0, .null, .ref qm, .ref qe, .ref qo, .ref qi, .ref qw, .ref qt, .ref qs, .ref qp])), (qm, .inl (cm, 26, .inr (.inr (.inr (.inr (fun _ => none))))))]) hD hS hA [0, 2] rfl
  refine va_calll (va_runV (As := [.int (xs 1), .int (xs 2), .int (xs 3)]) (rest := []) ⟨hx, hb, hml, hown, htw⟩ (px_D_tutte l dC dI H.size de qb qm qe qo qi qw qt qs qp cm (xs 1) (xs 2) (xs 3)) (cwV 3 htw (px_gvl (List.mem_append_left _ px_v29) (List.mem_append_right _ px_w362) (List.mem_append_right _ px_w363) (List.mem_append_right _ px_w6) (px_gl px_g30)) rfl rfl rfl (by decide +kernel) ⟨Nat.le_of_ble_eq_true rfl, Nat.le_of_ble_eq_true rfl⟩) ⟨fun a U g mk q => by obtain ⟨q0, q1, qP, qK, qD, qN⟩ := q; exact ⟨q0, q1, qP, va_K.moved (u := U) (U := U.calling g mk a) (Vm.Alike.refl U.vm) qK, qD, qN.same rfl⟩, va_recv hK hP (ci := 0) (q0 := 0) rfl rfl, fun U hU hW => ⟨rfl, by rw [hU], by rw [hU]; exact hPc, va_K.moved hW.alike hKc, hDc.weaken (fun _ _ _ _ => trivial), hN.warm hW⟩⟩ rfl rfl hl.1 rfl (lv_room (Nat.le_of_ble_eq_true rfl)) px_dL_553 ⟨(Nat.le_of_ble_eq_true rfl), (Nat.le_of_ble_eq_true rfl)⟩) hS (fun q _ h => hFc q h) hFc (fun r u t H1 locs ht hvm hw_553 hB hz1 hk1 hS => ?_)
  obtain ⟨hP1, hK1, hD1⟩ := hB
  rw [ht] at hP1
  have hK1 := va_K.moved hvm.symm hK1
  obtain ⟨hP, hD⟩ := va_join (wr := [(qb, .inl (cb, 512, .inl (fun _ => 0))), (qt, .inr (5, [.ref q7, .int 0, .int 0, .int 0, .int 0, .int 0])), (qp, .inr (7, [.ref q10, .ref q11, .int 0, .int 0])), (mo, .inr (8, fs)), (rt, .inl (ct, 26, .inl (fun _ => 0))), (rc, .inl (cc, 16384, .inl (fun _ => 0))), (ot, .inl (co, 1, .inr (.inl (fun _ => 0))))]) (w1 := [(de, .inr (0, [.ref qb, .int 0, .int (-1), .int 0, .int 0, .null, .ref qm, .ref qe, .ref qo, .ref qi, .ref qw, .ref qt, .ref qs, .ref qp])), (qm, .inl (cm, 26, .inr (.inr (.inr (.inr (fun _ => none))))))]) hP hD [0, 2] [1, 3, 4, 5, 6, 7, 8] rfl rfl (by decide) (by decide) hk1 hFc hP1 hD1
  generalize H1 = H at hP hS ⊢
  have hP : va_P (dC, dI) vwCl [(qb, .inl (cb, 512, .inl (fun _ => 0))), (qt, .inr (5, [.ref q7, .int 0, .int 0, .int 0, .int 0, .int 0])), (qp, .inr (7, [.ref q10, .ref q11, .int 0, .int 0])), (mo, .inr (8, fs)), (rt, .inl (ct, 26, .inl (fun _ => 0))), (rc, .inl (cc, 16384, .inl (fun _ => 0))), (ot, .inl (co, 1, .inr (.inl (fun _ => 0)))), (de, .inr (0, [.ref qb, .int 0, .int (-1), .int 0, .int 0, .null, .ref qm, .ref qe, .ref qo, .ref qi, .ref qw, .ref qt, .ref qs, .ref qp])), (qm, .inl (cm, 26, .inr (.inr (.inr (.inr (fun _ => none))))))] H := hP
  have hD : va_D (fun q : Nat => s.heap.size ≤ q) [(qb, .inl (cb, 512, .inl (fun _ => 0))), (qt, .inr (5, [.ref q7, .int 0, .int 0, .int 0, .int 0, .int 0])), (qp, .inr (7, [.ref q10, .ref q11, .int 0, .int 0])), (mo, .inr (8, fs)), (rt, .inl (ct, 26, .inl (fun _ => 0))), (rc, .inl (cc, 16384, .inl (fun _ => 0))), (ot, .inl (co, 1, .inr (.inl (fun _ => 0)))), (de, .inr (0, [.ref qb, .int 0, .int (-1), .int 0, .int 0, .null, .ref qm, .ref qe, .ref qo, .ref qi, .ref qw, .ref qt, .ref qs, .ref qp])), (qm, .inl (cm, 26, .inr (.inr (.inr (.inr (fun _ => none))))))] := hD
  subst hw_553
  refine lv_aload_n hx hb px_dL_556 rfl (lv_at hl 2 rfl) ?_
  refine lv_aload_n hx hb px_dL_557 rfl (lv_at hl 4 rfl) ?_
  refine lv_iload hx hb px_dL_558 (lv_at hl 0 rfl) ?_
  refine lv_iconst (v := 1) hx hb px_dL_560 (by decide) ?_
  refine lv_iadd hx hb px_dL_561 ?_
  refine lv_topi (nm_r (e' := (1 : Int32)) (by decide +kernel) ?_)
  refine va_sld hx hb hX hbl hbA hS (show vp_in (nI 1) 6 from vp_in_nI (by decide) (by decide)) px_dL_562 ?_
  refine lv_topi (nm_r (e' := xs 1) (congrArg xs (by decide +kernel)) ?_)
  refine lv_aload_n hx hb px_dL_563 rfl (lv_at hl 4 rfl) ?_
  refine lv_iload hx hb px_dL_564 (lv_at hl 0 rfl) ?_
  refine lv_iconst (v := 2) hx hb px_dL_566 (by decide) ?_
  refine lv_iadd hx hb px_dL_567 ?_
  refine lv_topi (nm_r (e' := (2 : Int32)) (by decide +kernel) ?_)
  refine va_sld hx hb hX hbl hbA hS (show vp_in (nI 2) 6 from vp_in_nI (by decide) (by decide)) px_dL_568 ?_
  refine lv_topi (nm_r (e' := xs 2) (congrArg xs (by decide +kernel)) ?_)
  refine lv_aload_n hx hb px_dL_569 rfl (lv_at hl 4 rfl) ?_
  refine lv_iload hx hb px_dL_570 (lv_at hl 0 rfl) ?_
  refine lv_iconst (v := 3) hx hb px_dL_572 (by decide) ?_
  refine lv_iadd hx hb px_dL_573 ?_
  refine lv_topi (nm_r (e' := (3 : Int32)) (by decide +kernel) ?_)
  refine va_sld hx hb hX hbl hbA hS (show vp_in (nI 3) 6 from vp_in_nI (by decide) (by decide)) px_dL_574 ?_
  refine lv_topi (nm_r (e' := xs 3) (congrArg xs (by decide +kernel)) ?_)
  have hPc := hP.sub (ws' := [(mo, .inr (8, fs)), (rt, .inl (ct, 26, .inl (fun _ => 0)))]) [3, 4] rfl
  have hDc := hD.sub (ws' := [(mo, .inr (8, fs)), (rt, .inl (ct, 26, .inl (fun _ => 0)))]) [3, 4] (by decide) rfl
  have hKc := hK.sub (tys' := [(ct, .boolean)]) [2] rfl
  have hFc := va_free (wc := [(mo, .inr (8, fs)), (rt, .inl (ct, 26, .inl (fun _ => 0)))]) hD hS hA [3, 4] rfl
  refine va_calll (va_runV (As := [.int (xs 1), .int (xs 2), .int (xs 3)]) (rest := [.long 0]) ⟨hx, hb, hml, hown, htw⟩ (px_M_tutte l dC dI H.size mo fs rt ct (xs 1) (xs 2) (xs 3) hF.1 hF.2.1) (cwV 3 htw (px_gvl (List.mem_append_left _ px_v30) (List.mem_append_right _ px_w465) (List.mem_append_right _ px_w466) (List.mem_append_right _ px_w94) (px_gl px_g59)) rfl rfl rfl (by decide +kernel) ⟨Nat.le_of_ble_eq_true rfl, Nat.le_of_ble_eq_true rfl⟩) ⟨fun a U g mk q => by obtain ⟨q0, q1, qP, qK, qD, qN⟩ := q; exact ⟨q0, q1, qP, va_K.moved (u := U) (U := U.calling g mk a) (Vm.Alike.refl U.vm) qK, qD, qN.same rfl⟩, va_recv hK hP (ci := 8) (q0 := 3) rfl rfl, fun U hU hW => ⟨rfl, by rw [hU], by rw [hU]; exact hPc, va_K.moved hW.alike hKc, hDc.weaken (fun _ _ _ _ => trivial), hN.warm hW⟩⟩ rfl rfl hl.1 rfl (lv_room (Nat.le_of_ble_eq_true rfl)) px_dL_575 ⟨(Nat.le_of_ble_eq_true rfl), (Nat.le_of_ble_eq_true rfl)⟩) hS (fun q _ h => hFc q h) hFc (fun r u t H1 locs ht hvm hw_575 hB hz1 hk1 hS => ?_)
  obtain ⟨hP1, hK1, hD1⟩ := hB
  rw [ht] at hP1
  have hK1 := va_K.moved hvm.symm hK1
  obtain ⟨hP, hD⟩ := va_join (wr := [(qb, .inl (cb, 512, .inl (fun _ => 0))), (qt, .inr (5, [.ref q7, .int 0, .int 0, .int 0, .int 0, .int 0])), (qp, .inr (7, [.ref q10, .ref q11, .int 0, .int 0])), (rc, .inl (cc, 16384, .inl (fun _ => 0))), (ot, .inl (co, 1, .inr (.inl (fun _ => 0)))), (de, .inr (0, [.ref qb, .int 0, .int (-1), .int 0, .int 0, .null, .ref qm, .ref qe, .ref qo, .ref qi, .ref qw, .ref qt, .ref qs, .ref qp])), (qm, .inl (cm, 26, .inr (.inr (.inr (.inr (fun _ => none))))))]) (w1 := []) hP hD [3, 4] [0, 1, 2, 5, 6, 7, 8] rfl rfl (by decide) (by decide) hk1 hFc hP1 hD1
  generalize H1 = H at hP hS ⊢
  have hP : va_P (dC, dI) vwCl [(qb, .inl (cb, 512, .inl (fun _ => 0))), (qt, .inr (5, [.ref q7, .int 0, .int 0, .int 0, .int 0, .int 0])), (qp, .inr (7, [.ref q10, .ref q11, .int 0, .int 0])), (rc, .inl (cc, 16384, .inl (fun _ => 0))), (ot, .inl (co, 1, .inr (.inl (fun _ => 0)))), (de, .inr (0, [.ref qb, .int 0, .int (-1), .int 0, .int 0, .null, .ref qm, .ref qe, .ref qo, .ref qi, .ref qw, .ref qt, .ref qs, .ref qp])), (qm, .inl (cm, 26, .inr (.inr (.inr (.inr (fun _ => none))))))] H := hP
  have hD : va_D (fun q : Nat => s.heap.size ≤ q) [(qb, .inl (cb, 512, .inl (fun _ => 0))), (qt, .inr (5, [.ref q7, .int 0, .int 0, .int 0, .int 0, .int 0])), (qp, .inr (7, [.ref q10, .ref q11, .int 0, .int 0])), (rc, .inl (cc, 16384, .inl (fun _ => 0))), (ot, .inl (co, 1, .inr (.inl (fun _ => 0)))), (de, .inr (0, [.ref qb, .int 0, .int (-1), .int 0, .int 0, .null, .ref qm, .ref qe, .ref qo, .ref qi, .ref qw, .ref qt, .ref qs, .ref qp])), (qm, .inl (cm, 26, .inr (.inr (.inr (.inr (fun _ => none))))))] := hD
  subst hw_575
  refine W.lcmp hx hb px_dL_578 ?_
  refine lv_topi (nm_r (e' := (0 : Int32)) (by decide +kernel) ?_)
  refine lv_if_eq (tgt := 917) hx hb px_dL_579 (by decide) (fun _ => ?_) (fun h9 => absurd (by decide +kernel) h9)
  exact px_tail C0 (by decide) (by decide) hS (lv_sub hl [0, 4] rfl)
set_option maxHeartbeats 4000000 in
set_option maxRecDepth 100000 in
/-- case 13 of the law -/
theorem px_case13 {p : Program} {e : Env} {s : State} {m : MethodId} {below : List Frame} {meth : Method} {c : Code} {l : Launch} {b : Nat} {xs : Nat → Int32} (C0 : lw_At p s m meth c b 6 xs) {dC : Nat → ClassId} {dI : Nat → Nat → Nat} {de qb qm qe qo qi qw qt qs qp q7 q10 q11 mo rt rc ot : Nat} {cb cm ct cc co : ClassId} {fs : List Value} {H : Heap} {locs : List Loc} {ls : Array Slot} (hK : va_K (dC, dI) vwCl [(cb, .byte), (cm, .object "MatroidDesk$Matroid"), (ct, .boolean), (cc, .byte), (co, .long)] s) (hP : va_P (dC, dI) vwCl [(de, .inr (0, [.ref qb, .int 0, .int (-1), .int 0, .int 0, .null, .ref qm, .ref qe, .ref qo, .ref qi, .ref qw, .ref qt, .ref qs, .ref qp])), (qb, .inl (cb, 512, .inl (fun _ => 0))), (qm, .inl (cm, 26, .inr (.inr (.inr (.inr (fun _ => none)))))), (qt, .inr (5, [.ref q7, .int 0, .int 0, .int 0, .int 0, .int 0])), (qp, .inr (7, [.ref q10, .ref q11, .int 0, .int 0])), (mo, .inr (8, fs)), (rt, .inl (ct, 26, .inl (fun _ => 0))), (rc, .inl (cc, 16384, .inl (fun _ => 0))), (ot, .inl (co, 1, .inr (.inl (fun _ => 0))))] H) (hD : va_D (fun q : Nat => s.heap.size ≤ q) [(de, .inr (0, [.ref qb, .int 0, .int (-1), .int 0, .int 0, .null, .ref qm, .ref qe, .ref qo, .ref qi, .ref qw, .ref qt, .ref qs, .ref qp])), (qb, .inl (cb, 512, .inl (fun _ => 0))), (qm, .inl (cm, 26, .inr (.inr (.inr (.inr (fun _ => none)))))), (qt, .inr (5, [.ref q7, .int 0, .int 0, .int 0, .int 0, .int 0])), (qp, .inr (7, [.ref q10, .ref q11, .int 0, .int 0])), (mo, .inr (8, fs)), (rt, .inl (ct, 26, .inl (fun _ => 0))), (rc, .inl (cc, 16384, .inl (fun _ => 0))), (ot, .inl (co, 1, .inr (.inl (fun _ => 0))))]) (hS : va_S (fun q : Nat => s.heap.size ≤ q) s.heap H locs) (hN : px_N s) (hF : px_mdl fs rt rc) (hl : lv_has ls 7 [(4, .int 0), (3, .ref ot), (2, .ref mo), (1, .ref de), (0, .ref b)]) : W p l e room_1 s m #[Value.ref b] below meth c H locs 460 449508 (lw_Z below #[Value.ref b] s) (F0 m 584 ls []) := by
  obtain ⟨hx, hb, hr, hml, hown, hts, hX, hbl, hlocks, hgv⟩ := id C0
  have hown : s.vm.findClass "MatroidDeskLaw" = some m.cls := hown
  have htw : ∀ w ∈ px_tl, w.before _ s = true := fun w h => hts w (px_tl_in w h)
  have hA : ∀ q : Nat, s.heap.size ≤ q → (fun q : Nat => s.heap.size ≤ q) q := fun _ h => h
  have hbA : ¬ (fun q : Nat => s.heap.size ≤ q) b := Nat.not_le.mpr hbl
  refine lv_aload_n hx hb px_dL_584 rfl (lv_at hl 3 rfl) ?_
  refine lv_aload_n hx hb px_dL_585 rfl (lv_at hl 4 rfl) ?_
  refine lv_iload hx hb px_dL_586 (lv_at hl 0 rfl) ?_
  refine lv_iconst (v := 1) hx hb px_dL_588 (by decide) ?_
  refine lv_iadd hx hb px_dL_589 ?_
  refine lv_topi (nm_r (e' := (1 : Int32)) (by decide +kernel) ?_)
  refine va_sld hx hb hX hbl hbA hS (show vp_in (nI 1) 6 from vp_in_nI (by decide) (by decide)) px_dL_590 ?_
  refine lv_topi (nm_r (e' := xs 1) (congrArg xs (by decide +kernel)) ?_)
  refine lv_aload_n hx hb px_dL_591 rfl (lv_at hl 4 rfl) ?_
  refine lv_iload hx hb px_dL_592 (lv_at hl 0 rfl) ?_
  refine lv_iconst (v := 2) hx hb px_dL_594 (by decide) ?_
  refine lv_iadd hx hb px_dL_595 ?_
  refine lv_topi (nm_r (e' := (2 : Int32)) (by decide +kernel) ?_)
  refine va_sld hx hb hX hbl hbA hS (show vp_in (nI 2) 6 from vp_in_nI (by decide) (by decide)) px_dL_596 ?_
  refine lv_topi (nm_r (e' := xs 2) (congrArg xs (by decide +kernel)) ?_)
  have hPc := hP.sub (ws' := [(de, .inr (0, [.ref qb, .int 0, .int (-1), .int 0, .int 0, .null, .ref qm, .ref qe, .ref qo, .ref qi, .ref qw, .ref qt, .ref qs, .ref qp])), (qm, .inl (cm, 26, .inr (.inr (.inr (.inr (fun _ => none))))))]) [0, 2] rfl
  have hDc := hD.sub (ws' := [(de, .inr (0, [.ref qb, .int 0, .int (-1), .int 0, .int 0, .null, .ref qm, .ref qe, .ref qo, .ref qi, .ref qw, .ref qt, .ref qs, .ref qp])), (qm, .inl (cm, 26, .inr (.inr (.inr (.inr (fun _ => none))))))]) [0, 2] (by decide) rfl
  have hKc := hK.sub (tys' := [(cm, .object "MatroidDesk$Matroid")]) [1] rfl
  have hFc := va_free (wc := [(de, .inr (0, [.ref qb, .int 0, .int (-1), .int 0, .int 0, .null, .ref qm, .ref qe, .ref qo, .ref qi, .ref qw, .ref qt, .ref qs, .ref qp])), (qm, .inl (cm, 26, .inr (.inr (.inr (.inr (fun _ => none))))))]) hD hS hA [0, 2] rfl
  refine va_calli (va_runV (As := [.int (xs 1), .int (xs 2)]) (rest := []) ⟨hx, hb, hml, hown, htw⟩ (px_D_weight l dC dI H.size de qb qm qe qo qi qw qt qs qp cm (xs 1) (xs 2)) (cwV 2 htw (px_gvl (List.mem_append_left _ px_v31) (List.mem_append_right _ px_w365) (List.mem_append_right _ px_w366) (List.mem_append_right _ px_w6) (px_gl px_g31)) rfl rfl rfl (by decide +kernel) ⟨Nat.le_of_ble_eq_true rfl, Nat.le_of_ble_eq_true rfl⟩) ⟨fun a U g mk q => by obtain ⟨q0, q1, qP, qK, qD, qN⟩ := q; exact ⟨q0, q1, qP, va_K.moved (u := U) (U := U.calling g mk a) (Vm.Alike.refl U.vm) qK, qD, qN.same rfl⟩, va_recv hK hP (ci := 0) (q0 := 0) rfl rfl, fun U hU hW => ⟨rfl, by rw [hU], by rw [hU]; exact hPc, va_K.moved hW.alike hKc, hDc.weaken (fun _ _ _ _ => trivial), hN.warm hW⟩⟩ rfl rfl hl.1 rfl (lv_room (Nat.le_of_ble_eq_true rfl)) px_dL_597 ⟨(Nat.le_of_ble_eq_true rfl), (Nat.le_of_ble_eq_true rfl)⟩) hS (fun q _ h => hFc q h) hFc (fun r u t H1 locs ht hvm hw_597 hB hz1 hk1 hS => ?_)
  obtain ⟨hP1, hK1, hD1⟩ := hB
  rw [ht] at hP1
  have hK1 := va_K.moved hvm.symm hK1
  obtain ⟨hP, hD⟩ := va_join (wr := [(qb, .inl (cb, 512, .inl (fun _ => 0))), (qt, .inr (5, [.ref q7, .int 0, .int 0, .int 0, .int 0, .int 0])), (qp, .inr (7, [.ref q10, .ref q11, .int 0, .int 0])), (mo, .inr (8, fs)), (rt, .inl (ct, 26, .inl (fun _ => 0))), (rc, .inl (cc, 16384, .inl (fun _ => 0))), (ot, .inl (co, 1, .inr (.inl (fun _ => 0))))]) (w1 := [(de, .inr (0, [.ref qb, .int 0, .int (-1), .int 0, .int 0, .null, .ref qm, .ref qe, .ref qo, .ref qi, .ref qw, .ref qt, .ref qs, .ref qp])), (qm, .inl (cm, 26, .inr (.inr (.inr (.inr (fun _ => none))))))]) hP hD [0, 2] [1, 3, 4, 5, 6, 7, 8] rfl rfl (by decide) (by decide) hk1 hFc hP1 hD1
  generalize H1 = H at hP hS ⊢
  have hP : va_P (dC, dI) vwCl [(qb, .inl (cb, 512, .inl (fun _ => 0))), (qt, .inr (5, [.ref q7, .int 0, .int 0, .int 0, .int 0, .int 0])), (qp, .inr (7, [.ref q10, .ref q11, .int 0, .int 0])), (mo, .inr (8, fs)), (rt, .inl (ct, 26, .inl (fun _ => 0))), (rc, .inl (cc, 16384, .inl (fun _ => 0))), (ot, .inl (co, 1, .inr (.inl (fun _ => 0)))), (de, .inr (0, [.ref qb, .int 0, .int (-1), .int 0, .int 0, .null, .ref qm, .ref qe, .ref qo, .ref qi, .ref qw, .ref qt, .ref qs, .ref qp])), (qm, .inl (cm, 26, .inr (.inr (.inr (.inr (fun _ => none))))))] H := hP
  have hD : va_D (fun q : Nat => s.heap.size ≤ q) [(qb, .inl (cb, 512, .inl (fun _ => 0))), (qt, .inr (5, [.ref q7, .int 0, .int 0, .int 0, .int 0, .int 0])), (qp, .inr (7, [.ref q10, .ref q11, .int 0, .int 0])), (mo, .inr (8, fs)), (rt, .inl (ct, 26, .inl (fun _ => 0))), (rc, .inl (cc, 16384, .inl (fun _ => 0))), (ot, .inl (co, 1, .inr (.inl (fun _ => 0)))), (de, .inr (0, [.ref qb, .int 0, .int (-1), .int 0, .int 0, .null, .ref qm, .ref qe, .ref qo, .ref qi, .ref qw, .ref qt, .ref qs, .ref qp])), (qm, .inl (cm, 26, .inr (.inr (.inr (.inr (fun _ => none))))))] := hD
  subst hw_597
  refine lv_aload_n hx hb px_dL_600 rfl (lv_at hl 2 rfl) ?_
  refine lv_aload_n hx hb px_dL_601 rfl (lv_at hl 4 rfl) ?_
  refine lv_iload hx hb px_dL_602 (lv_at hl 0 rfl) ?_
  refine lv_iconst (v := 1) hx hb px_dL_604 (by decide) ?_
  refine lv_iadd hx hb px_dL_605 ?_
  refine lv_topi (nm_r (e' := (1 : Int32)) (by decide +kernel) ?_)
  refine va_sld hx hb hX hbl hbA hS (show vp_in (nI 1) 6 from vp_in_nI (by decide) (by decide)) px_dL_606 ?_
  refine lv_topi (nm_r (e' := xs 1) (congrArg xs (by decide +kernel)) ?_)
  refine lv_aload_n hx hb px_dL_607 rfl (lv_at hl 4 rfl) ?_
  refine lv_iload hx hb px_dL_608 (lv_at hl 0 rfl) ?_
  refine lv_iconst (v := 2) hx hb px_dL_610 (by decide) ?_
  refine lv_iadd hx hb px_dL_611 ?_
  refine lv_topi (nm_r (e' := (2 : Int32)) (by decide +kernel) ?_)
  refine va_sld hx hb hX hbl hbA hS (show vp_in (nI 2) 6 from vp_in_nI (by decide) (by decide)) px_dL_612 ?_
  refine lv_topi (nm_r (e' := xs 2) (congrArg xs (by decide +kernel)) ?_)
  have hPc := hP.sub (ws' := [(mo, .inr (8, fs)), (rt, .inl (ct, 26, .inl (fun _ => 0)))]) [3, 4] rfl
  have hDc := hD.sub (ws' := [(mo, .inr (8, fs)), (rt, .inl (ct, 26, .inl (fun _ => 0)))]) [3, 4] (by decide) rfl
  have hKc := hK.sub (tys' := [(ct, .boolean)]) [2] rfl
  have hFc := va_free (wc := [(mo, .inr (8, fs)), (rt, .inl (ct, 26, .inl (fun _ => 0)))]) hD hS hA [3, 4] rfl
  refine va_calli (va_runV (As := [.int (xs 1), .int (xs 2)]) (rest := [.int 0]) ⟨hx, hb, hml, hown, htw⟩ (px_M_weight l dC dI H.size mo fs rt ct (xs 1) (xs 2) hF.1 hF.2.1) (cwV 2 htw (px_gvl (List.mem_append_left _ px_v32) (List.mem_append_right _ px_w468) (List.mem_append_right _ px_w469) (List.mem_append_right _ px_w94) (px_gl px_g60)) rfl rfl rfl (by decide +kernel) ⟨Nat.le_of_ble_eq_true rfl, Nat.le_of_ble_eq_true rfl⟩) ⟨fun a U g mk q => by obtain ⟨q0, q1, qP, qK, qD, qN⟩ := q; exact ⟨q0, q1, qP, va_K.moved (u := U) (U := U.calling g mk a) (Vm.Alike.refl U.vm) qK, qD, qN.same rfl⟩, va_recv hK hP (ci := 8) (q0 := 3) rfl rfl, fun U hU hW => ⟨rfl, by rw [hU], by rw [hU]; exact hPc, va_K.moved hW.alike hKc, hDc.weaken (fun _ _ _ _ => trivial), hN.warm hW⟩⟩ rfl rfl hl.1 rfl (lv_room (Nat.le_of_ble_eq_true rfl)) px_dL_613 ⟨(Nat.le_of_ble_eq_true rfl), (Nat.le_of_ble_eq_true rfl)⟩) hS (fun q _ h => hFc q h) hFc (fun r u t H1 locs ht hvm hw_613 hB hz1 hk1 hS => ?_)
  obtain ⟨hP1, hK1, hD1⟩ := hB
  rw [ht] at hP1
  have hK1 := va_K.moved hvm.symm hK1
  obtain ⟨hP, hD⟩ := va_join (wr := [(qb, .inl (cb, 512, .inl (fun _ => 0))), (qt, .inr (5, [.ref q7, .int 0, .int 0, .int 0, .int 0, .int 0])), (qp, .inr (7, [.ref q10, .ref q11, .int 0, .int 0])), (rc, .inl (cc, 16384, .inl (fun _ => 0))), (ot, .inl (co, 1, .inr (.inl (fun _ => 0)))), (de, .inr (0, [.ref qb, .int 0, .int (-1), .int 0, .int 0, .null, .ref qm, .ref qe, .ref qo, .ref qi, .ref qw, .ref qt, .ref qs, .ref qp])), (qm, .inl (cm, 26, .inr (.inr (.inr (.inr (fun _ => none))))))]) (w1 := []) hP hD [3, 4] [0, 1, 2, 5, 6, 7, 8] rfl rfl (by decide) (by decide) hk1 hFc hP1 hD1
  generalize H1 = H at hP hS ⊢
  have hP : va_P (dC, dI) vwCl [(qb, .inl (cb, 512, .inl (fun _ => 0))), (qt, .inr (5, [.ref q7, .int 0, .int 0, .int 0, .int 0, .int 0])), (qp, .inr (7, [.ref q10, .ref q11, .int 0, .int 0])), (rc, .inl (cc, 16384, .inl (fun _ => 0))), (ot, .inl (co, 1, .inr (.inl (fun _ => 0)))), (de, .inr (0, [.ref qb, .int 0, .int (-1), .int 0, .int 0, .null, .ref qm, .ref qe, .ref qo, .ref qi, .ref qw, .ref qt, .ref qs, .ref qp])), (qm, .inl (cm, 26, .inr (.inr (.inr (.inr (fun _ => none))))))] H := hP
  have hD : va_D (fun q : Nat => s.heap.size ≤ q) [(qb, .inl (cb, 512, .inl (fun _ => 0))), (qt, .inr (5, [.ref q7, .int 0, .int 0, .int 0, .int 0, .int 0])), (qp, .inr (7, [.ref q10, .ref q11, .int 0, .int 0])), (rc, .inl (cc, 16384, .inl (fun _ => 0))), (ot, .inl (co, 1, .inr (.inl (fun _ => 0)))), (de, .inr (0, [.ref qb, .int 0, .int (-1), .int 0, .int 0, .null, .ref qm, .ref qe, .ref qo, .ref qi, .ref qw, .ref qt, .ref qs, .ref qp])), (qm, .inl (cm, 26, .inr (.inr (.inr (.inr (fun _ => none))))))] := hD
  subst hw_613
  refine lv_icmp_eq (tgt := 917) hx hb px_dL_616 (by decide) (fun _ => ?_) (fun h9 => absurd (by decide +kernel) h9)
  exact px_tail C0 (by decide) (by decide) hS (lv_sub hl [0, 4] rfl)
