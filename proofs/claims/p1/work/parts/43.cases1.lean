set_option maxHeartbeats 4000000 in
set_option maxRecDepth 100000 in
/-- case 6 of the law -/
theorem px_case6 {p : Program} {e : Env} {s : State} {m : MethodId} {below : List Frame} {meth : Method} {c : Code} {l : Launch} {b : Nat} {xs : Nat → Int32} (C0 : lw_At p s m meth c b 6 xs) {dC : Nat → ClassId} {dI : Nat → Nat → Nat} {de qb qm qe qo qi qw qt qs qp q7 q10 q11 mo rt rc ot : Nat} {cb cm ct cc co : ClassId} {fs : List Value} {H : Heap} {locs : List Loc} {ls : Array Slot} (hK : va_K (dC, dI) vwCl [(cb, .byte), (cm, .object "MatroidDesk$Matroid"), (ct, .boolean), (cc, .byte), (co, .long)] s) (hP : va_P (dC, dI) vwCl [(de, .inr (0, [.ref qb, .int 0, .int (-1), .int 0, .int 0, .null, .ref qm, .ref qe, .ref qo, .ref qi, .ref qw, .ref qt, .ref qs, .ref qp])), (qb, .inl (cb, 512, .inl (fun _ => 0))), (qm, .inl (cm, 26, .inr (.inr (.inr (.inr (fun _ => none)))))), (qt, .inr (5, [.ref q7, .int 0, .int 0, .int 0, .int 0, .int 0])), (qp, .inr (7, [.ref q10, .ref q11, .int 0, .int 0])), (mo, .inr (8, fs)), (rt, .inl (ct, 26, .inl (fun _ => 0))), (rc, .inl (cc, 16384, .inl (fun _ => 0))), (ot, .inl (co, 1, .inr (.inl (fun _ => 0))))] H) (hD : va_D (fun q : Nat => s.heap.size ≤ q) [(de, .inr (0, [.ref qb, .int 0, .int (-1), .int 0, .int 0, .null, .ref qm, .ref qe, .ref qo, .ref qi, .ref qw, .ref qt, .ref qs, .ref qp])), (qb, .inl (cb, 512, .inl (fun _ => 0))), (qm, .inl (cm, 26, .inr (.inr (.inr (.inr (fun _ => none)))))), (qt, .inr (5, [.ref q7, .int 0, .int 0, .int 0, .int 0, .int 0])), (qp, .inr (7, [.ref q10, .ref q11, .int 0, .int 0])), (mo, .inr (8, fs)), (rt, .inl (ct, 26, .inl (fun _ => 0))), (rc, .inl (cc, 16384, .inl (fun _ => 0))), (ot, .inl (co, 1, .inr (.inl (fun _ => 0))))]) (hS : va_S (fun q : Nat => s.heap.size ≤ q) s.heap H locs) (hN : px_N s) (hF : px_mdl fs rt rc) (hl : lv_has ls 7 [(4, .int 0), (3, .ref ot), (2, .ref mo), (1, .ref de), (0, .ref b)]) : W p l e room_1 s m #[Value.ref b] below meth c H locs 460 449508 (lw_Z below #[Value.ref b] s) (F0 m 336 ls []) := by
  obtain ⟨hx, hb, hr, hml, hown, hts, hX, hbl, hlocks, hgv⟩ := id C0
  have hown : s.vm.findClass "MatroidDeskLaw" = some m.cls := hown
  have htw : ∀ w ∈ px_tl, w.before _ s = true := fun w h => hts w (px_tl_in w h)
  have hA : ∀ q : Nat, s.heap.size ≤ q → (fun q : Nat => s.heap.size ≤ q) q := fun _ h => h
  have hbA : ¬ (fun q : Nat => s.heap.size ≤ q) b := Nat.not_le.mpr hbl
  refine lv_aload_n hx hb px_dL_336 rfl (lv_at hl 3 rfl) ?_
  refine lv_aload_n hx hb px_dL_337 rfl (lv_at hl 4 rfl) ?_
  refine lv_iload hx hb px_dL_338 (lv_at hl 0 rfl) ?_
  refine lv_iconst (v := 1) hx hb px_dL_340 (by decide) ?_
  refine lv_iadd hx hb px_dL_341 ?_
  refine lv_topi (nm_r (e' := (1 : Int32)) (by decide +kernel) ?_)
  refine va_sld hx hb hX hbl hbA hS (show vp_in (nI 1) 6 from vp_in_nI (by decide) (by decide)) px_dL_342 ?_
  refine lv_topi (nm_r (e' := xs 1) (congrArg xs (by decide +kernel)) ?_)
  have hPc := hP.sub (ws' := [(de, .inr (0, [.ref qb, .int 0, .int (-1), .int 0, .int 0, .null, .ref qm, .ref qe, .ref qo, .ref qi, .ref qw, .ref qt, .ref qs, .ref qp])), (qp, .inr (7, [.ref q10, .ref q11, .int 0, .int 0]))]) [0, 4] rfl
  have hDc := hD.sub (ws' := [(de, .inr (0, [.ref qb, .int 0, .int (-1), .int 0, .int 0, .null, .ref qm, .ref qe, .ref qo, .ref qi, .ref qw, .ref qt, .ref qs, .ref qp])), (qp, .inr (7, [.ref q10, .ref q11, .int 0, .int 0]))]) [0, 4] (by decide) rfl
  have hKc := hK.sub (tys' := []) [] rfl
  have hFc := va_free (wc := [(de, .inr (0, [.ref qb, .int 0, .int (-1), .int 0, .int 0, .null, .ref qm, .ref qe, .ref qo, .ref qi, .ref qw, .ref qt, .ref qs, .ref qp])), (qp, .inr (7, [.ref q10, .ref q11, .int 0, .int 0]))]) hD hS hA [0, 4] rfl
  refine va_calli (va_runV (As := [.int (xs 1)]) (rest := []) ⟨hx, hb, hml, hown, htw⟩ (px_D_out l dC dI H.size de qb qm qe qo qi qw qt qs qp q10 q11 (xs 1)) (cwV 1 htw (px_gvl (List.mem_append_left _ px_v17) (List.mem_append_right _ px_w341) (List.mem_append_right _ px_w342) (List.mem_append_right _ px_w6) (px_gl px_g23)) rfl rfl rfl (by decide +kernel) ⟨Nat.le_of_ble_eq_true rfl, Nat.le_of_ble_eq_true rfl⟩) ⟨fun a U g mk q => by obtain ⟨q0, q1, qP, qK, qD, qN⟩ := q; exact ⟨q0, q1, qP, va_K.moved (u := U) (U := U.calling g mk a) (Vm.Alike.refl U.vm) qK, qD, qN.same rfl⟩, va_recv hK hP (ci := 0) (q0 := 0) rfl rfl, fun U hU hW => ⟨rfl, by rw [hU], by rw [hU]; exact hPc, va_K.moved hW.alike hKc, hDc.weaken (fun _ _ _ _ => trivial), hN.warm hW⟩⟩ rfl rfl hl.1 rfl (lv_room (Nat.le_of_ble_eq_true rfl)) px_dL_343 ⟨(Nat.le_of_ble_eq_true rfl), (Nat.le_of_ble_eq_true rfl)⟩) hS (fun q _ h => hFc q h) hFc (fun r u t H1 locs ht hvm hw_343 hB hz1 hk1 hS => ?_)
  obtain ⟨hP1, hK1, hD1⟩ := hB
  rw [ht] at hP1
  have hK1 := va_K.moved hvm.symm hK1
  obtain ⟨hP, hD⟩ := va_join (wr := [(qb, .inl (cb, 512, .inl (fun _ => 0))), (qm, .inl (cm, 26, .inr (.inr (.inr (.inr (fun _ => none)))))), (qt, .inr (5, [.ref q7, .int 0, .int 0, .int 0, .int 0, .int 0])), (mo, .inr (8, fs)), (rt, .inl (ct, 26, .inl (fun _ => 0))), (rc, .inl (cc, 16384, .inl (fun _ => 0))), (ot, .inl (co, 1, .inr (.inl (fun _ => 0))))]) (w1 := [(de, .inr (0, [.ref qb, .int 0, .int (-1), .int 0, .int 0, .null, .ref qm, .ref qe, .ref qo, .ref qi, .ref qw, .ref qt, .ref qs, .ref qp])), (qp, .inr (7, [.ref q10, .ref q11, .int 0, .int 0]))]) hP hD [0, 4] [1, 2, 3, 5, 6, 7, 8] rfl rfl (by decide) (by decide) hk1 hFc hP1 hD1
  generalize H1 = H at hP hS ⊢
  have hP : va_P (dC, dI) vwCl [(qb, .inl (cb, 512, .inl (fun _ => 0))), (qm, .inl (cm, 26, .inr (.inr (.inr (.inr (fun _ => none)))))), (qt, .inr (5, [.ref q7, .int 0, .int 0, .int 0, .int 0, .int 0])), (mo, .inr (8, fs)), (rt, .inl (ct, 26, .inl (fun _ => 0))), (rc, .inl (cc, 16384, .inl (fun _ => 0))), (ot, .inl (co, 1, .inr (.inl (fun _ => 0)))), (de, .inr (0, [.ref qb, .int 0, .int (-1), .int 0, .int 0, .null, .ref qm, .ref qe, .ref qo, .ref qi, .ref qw, .ref qt, .ref qs, .ref qp])), (qp, .inr (7, [.ref q10, .ref q11, .int 0, .int 0]))] H := hP
  have hD : va_D (fun q : Nat => s.heap.size ≤ q) [(qb, .inl (cb, 512, .inl (fun _ => 0))), (qm, .inl (cm, 26, .inr (.inr (.inr (.inr (fun _ => none)))))), (qt, .inr (5, [.ref q7, .int 0, .int 0, .int 0, .int 0, .int 0])), (mo, .inr (8, fs)), (rt, .inl (ct, 26, .inl (fun _ => 0))), (rc, .inl (cc, 16384, .inl (fun _ => 0))), (ot, .inl (co, 1, .inr (.inl (fun _ => 0)))), (de, .inr (0, [.ref qb, .int 0, .int (-1), .int 0, .int 0, .null, .ref qm, .ref qe, .ref qo, .ref qi, .ref qw, .ref qt, .ref qs, .ref qp])), (qp, .inr (7, [.ref q10, .ref q11, .int 0, .int 0]))] := hD
  subst hw_343
  refine lv_aload_n hx hb px_dL_346 rfl (lv_at hl 2 rfl) ?_
  refine lv_aload_n hx hb px_dL_347 rfl (lv_at hl 4 rfl) ?_
  refine lv_iload hx hb px_dL_348 (lv_at hl 0 rfl) ?_
  refine lv_iconst (v := 1) hx hb px_dL_350 (by decide) ?_
  refine lv_iadd hx hb px_dL_351 ?_
  refine lv_topi (nm_r (e' := (1 : Int32)) (by decide +kernel) ?_)
  refine va_sld hx hb hX hbl hbA hS (show vp_in (nI 1) 6 from vp_in_nI (by decide) (by decide)) px_dL_352 ?_
  refine lv_topi (nm_r (e' := xs 1) (congrArg xs (by decide +kernel)) ?_)
  have hPc := hP.sub (ws' := [(mo, .inr (8, fs))]) [3] rfl
  have hDc := hD.sub (ws' := [(mo, .inr (8, fs))]) [3] (by decide) rfl
  have hKc := hK.sub (tys' := []) [] rfl
  have hFc := va_free (wc := [(mo, .inr (8, fs))]) hD hS hA [3] rfl
  refine va_calli (va_runV (As := [.int (xs 1)]) (rest := [.int (-1)]) ⟨hx, hb, hml, hown, htw⟩ (px_M_out l dC dI H.size mo fs (xs 1) hF.1 hF.2.2.2.2.1) (cwV 1 htw (px_gvl (List.mem_append_left _ px_v18) (List.mem_append_right _ px_w443) (List.mem_append_right _ px_w444) (List.mem_append_right _ px_w94) (px_gl px_g52)) rfl rfl rfl (by decide +kernel) ⟨Nat.le_of_ble_eq_true rfl, Nat.le_of_ble_eq_true rfl⟩) ⟨fun a U g mk q => by obtain ⟨q0, q1, qP, qK, qD, qN⟩ := q; exact ⟨q0, q1, qP, va_K.moved (u := U) (U := U.calling g mk a) (Vm.Alike.refl U.vm) qK, qD, qN.same rfl⟩, va_recv hK hP (ci := 8) (q0 := 3) rfl rfl, fun U hU hW => ⟨rfl, by rw [hU], by rw [hU]; exact hPc, va_K.moved hW.alike hKc, hDc.weaken (fun _ _ _ _ => trivial), hN.warm hW⟩⟩ rfl rfl hl.1 rfl (lv_room (Nat.le_of_ble_eq_true rfl)) px_dL_353 ⟨(Nat.le_of_ble_eq_true rfl), (Nat.le_of_ble_eq_true rfl)⟩) hS (fun q _ h => hFc q h) hFc (fun r u t H1 locs ht hvm hw_353 hB hz1 hk1 hS => ?_)
  obtain ⟨hP1, hK1, hD1⟩ := hB
  rw [ht] at hP1
  have hK1 := va_K.moved hvm.symm hK1
  obtain ⟨hP, hD⟩ := va_join (wr := [(qb, .inl (cb, 512, .inl (fun _ => 0))), (qm, .inl (cm, 26, .inr (.inr (.inr (.inr (fun _ => none)))))), (qt, .inr (5, [.ref q7, .int 0, .int 0, .int 0, .int 0, .int 0])), (rt, .inl (ct, 26, .inl (fun _ => 0))), (rc, .inl (cc, 16384, .inl (fun _ => 0))), (ot, .inl (co, 1, .inr (.inl (fun _ => 0)))), (de, .inr (0, [.ref qb, .int 0, .int (-1), .int 0, .int 0, .null, .ref qm, .ref qe, .ref qo, .ref qi, .ref qw, .ref qt, .ref qs, .ref qp])), (qp, .inr (7, [.ref q10, .ref q11, .int 0, .int 0]))]) (w1 := []) hP hD [3] [0, 1, 2, 4, 5, 6, 7, 8] rfl rfl (by decide) (by decide) hk1 hFc hP1 hD1
  generalize H1 = H at hP hS ⊢
  have hP : va_P (dC, dI) vwCl [(qb, .inl (cb, 512, .inl (fun _ => 0))), (qm, .inl (cm, 26, .inr (.inr (.inr (.inr (fun _ => none)))))), (qt, .inr (5, [.ref q7, .int 0, .int 0, .int 0, .int 0, .int 0])), (rt, .inl (ct, 26, .inl (fun _ => 0))), (rc, .inl (cc, 16384, .inl (fun _ => 0))), (ot, .inl (co, 1, .inr (.inl (fun _ => 0)))), (de, .inr (0, [.ref qb, .int 0, .int (-1), .int 0, .int 0, .null, .ref qm, .ref qe, .ref qo, .ref qi, .ref qw, .ref qt, .ref qs, .ref qp])), (qp, .inr (7, [.ref q10, .ref q11, .int 0, .int 0]))] H := hP
  have hD : va_D (fun q : Nat => s.heap.size ≤ q) [(qb, .inl (cb, 512, .inl (fun _ => 0))), (qm, .inl (cm, 26, .inr (.inr (.inr (.inr (fun _ => none)))))), (qt, .inr (5, [.ref q7, .int 0, .int 0, .int 0, .int 0, .int 0])), (rt, .inl (ct, 26, .inl (fun _ => 0))), (rc, .inl (cc, 16384, .inl (fun _ => 0))), (ot, .inl (co, 1, .inr (.inl (fun _ => 0)))), (de, .inr (0, [.ref qb, .int 0, .int (-1), .int 0, .int 0, .null, .ref qm, .ref qe, .ref qo, .ref qi, .ref qw, .ref qt, .ref qs, .ref qp])), (qp, .inr (7, [.ref q10, .ref q11, .int 0, .int 0]))] := hD
  subst hw_353
  refine lv_icmp_eq (tgt := 917) hx hb px_dL_356 (by decide) (fun _ => ?_) (fun h9 => absurd (by decide +kernel) h9)
  exact px_tail C0 (by decide) (by decide) hS (lv_sub hl [0, 4] rfl)
set_option maxHeartbeats 4000000 in
set_option maxRecDepth 100000 in
/-- case 7 of the law -/
theorem px_case7 {p : Program} {e : Env} {s : State} {m : MethodId} {below : List Frame} {meth : Method} {c : Code} {l : Launch} {b : Nat} {xs : Nat → Int32} (C0 : lw_At p s m meth c b 6 xs) {dC : Nat → ClassId} {dI : Nat → Nat → Nat} {de qb qm qe qo qi qw qt qs qp q7 q10 q11 mo rt rc ot : Nat} {cb cm ct cc co : ClassId} {fs : List Value} {H : Heap} {locs : List Loc} {ls : Array Slot} (hK : va_K (dC, dI) vwCl [(cb, .byte), (cm, .object "MatroidDesk$Matroid"), (ct, .boolean), (cc, .byte), (co, .long)] s) (hP : va_P (dC, dI) vwCl [(de, .inr (0, [.ref qb, .int 0, .int (-1), .int 0, .int 0, .null, .ref qm, .ref qe, .ref qo, .ref qi, .ref qw, .ref qt, .ref qs, .ref qp])), (qb, .inl (cb, 512, .inl (fun _ => 0))), (qm, .inl (cm, 26, .inr (.inr (.inr (.inr (fun _ => none)))))), (qt, .inr (5, [.ref q7, .int 0, .int 0, .int 0, .int 0, .int 0])), (qp, .inr (7, [.ref q10, .ref q11, .int 0, .int 0])), (mo, .inr (8, fs)), (rt, .inl (ct, 26, .inl (fun _ => 0))), (rc, .inl (cc, 16384, .inl (fun _ => 0))), (ot, .inl (co, 1, .inr (.inl (fun _ => 0))))] H) (hD : va_D (fun q : Nat => s.heap.size ≤ q) [(de, .inr (0, [.ref qb, .int 0, .int (-1), .int 0, .int 0, .null, .ref qm, .ref qe, .ref qo, .ref qi, .ref qw, .ref qt, .ref qs, .ref qp])), (qb, .inl (cb, 512, .inl (fun _ => 0))), (qm, .inl (cm, 26, .inr (.inr (.inr (.inr (fun _ => none)))))), (qt, .inr (5, [.ref q7, .int 0, .int 0, .int 0, .int 0, .int 0])), (qp, .inr (7, [.ref q10, .ref q11, .int 0, .int 0])), (mo, .inr (8, fs)), (rt, .inl (ct, 26, .inl (fun _ => 0))), (rc, .inl (cc, 16384, .inl (fun _ => 0))), (ot, .inl (co, 1, .inr (.inl (fun _ => 0))))]) (hS : va_S (fun q : Nat => s.heap.size ≤ q) s.heap H locs) (hN : px_N s) (hF : px_mdl fs rt rc) (hl : lv_has ls 7 [(4, .int 0), (3, .ref ot), (2, .ref mo), (1, .ref de), (0, .ref b)]) : W p l e room_1 s m #[Value.ref b] below meth c H locs 460 449508 (lw_Z below #[Value.ref b] s) (F0 m 361 ls []) := by
  obtain ⟨hx, hb, hr, hml, hown, hts, hX, hbl, hlocks, hgv⟩ := id C0
  have hown : s.vm.findClass "MatroidDeskLaw" = some m.cls := hown
  have htw : ∀ w ∈ px_tl, w.before _ s = true := fun w h => hts w (px_tl_in w h)
  have hA : ∀ q : Nat, s.heap.size ≤ q → (fun q : Nat => s.heap.size ≤ q) q := fun _ h => h
  have hbA : ¬ (fun q : Nat => s.heap.size ≤ q) b := Nat.not_le.mpr hbl
  refine lv_aload_n hx hb px_dL_361 rfl (lv_at hl 3 rfl) ?_
  refine lv_aload_n hx hb px_dL_362 rfl (lv_at hl 4 rfl) ?_
  refine lv_iload hx hb px_dL_363 (lv_at hl 0 rfl) ?_
  refine lv_iconst (v := 1) hx hb px_dL_365 (by decide) ?_
  refine lv_iadd hx hb px_dL_366 ?_
  refine lv_topi (nm_r (e' := (1 : Int32)) (by decide +kernel) ?_)
  refine va_sld hx hb hX hbl hbA hS (show vp_in (nI 1) 6 from vp_in_nI (by decide) (by decide)) px_dL_367 ?_
  refine lv_topi (nm_r (e' := xs 1) (congrArg xs (by decide +kernel)) ?_)
  have hPc := hP.sub (ws' := [(de, .inr (0, [.ref qb, .int 0, .int (-1), .int 0, .int 0, .null, .ref qm, .ref qe, .ref qo, .ref qi, .ref qw, .ref qt, .ref qs, .ref qp])), (qm, .inl (cm, 26, .inr (.inr (.inr (.inr (fun _ => none))))))]) [0, 2] rfl
  have hDc := hD.sub (ws' := [(de, .inr (0, [.ref qb, .int 0, .int (-1), .int 0, .int 0, .null, .ref qm, .ref qe, .ref qo, .ref qi, .ref qw, .ref qt, .ref qs, .ref qp])), (qm, .inl (cm, 26, .inr (.inr (.inr (.inr (fun _ => none))))))]) [0, 2] (by decide) rfl
  have hKc := hK.sub (tys' := [(cm, .object "MatroidDesk$Matroid")]) [1] rfl
  have hFc := va_free (wc := [(de, .inr (0, [.ref qb, .int 0, .int (-1), .int 0, .int 0, .null, .ref qm, .ref qe, .ref qo, .ref qi, .ref qw, .ref qt, .ref qs, .ref qp])), (qm, .inl (cm, 26, .inr (.inr (.inr (.inr (fun _ => none))))))]) hD hS hA [0, 2] rfl
  refine va_calli (va_runV (As := [.int (xs 1)]) (rest := []) ⟨hx, hb, hml, hown, htw⟩ (px_D_elements l dC dI H.size de qb qm qe qo qi qw qt qs qp cm (xs 1)) (cwV 1 htw (px_gvl (List.mem_append_left _ px_v19) (List.mem_append_right _ px_w347) (List.mem_append_right _ px_w348) (List.mem_append_right _ px_w6) (px_gl px_g25)) rfl rfl rfl (by decide +kernel) ⟨Nat.le_of_ble_eq_true rfl, Nat.le_of_ble_eq_true rfl⟩) ⟨fun a U g mk q => by obtain ⟨q0, q1, qP, qK, qD, qN⟩ := q; exact ⟨q0, q1, qP, va_K.moved (u := U) (U := U.calling g mk a) (Vm.Alike.refl U.vm) qK, qD, qN.same rfl⟩, va_recv hK hP (ci := 0) (q0 := 0) rfl rfl, fun U hU hW => ⟨rfl, by rw [hU], by rw [hU]; exact hPc, va_K.moved hW.alike hKc, hDc.weaken (fun _ _ _ _ => trivial), hN.warm hW⟩⟩ rfl rfl hl.1 rfl (lv_room (Nat.le_of_ble_eq_true rfl)) px_dL_368 ⟨(Nat.le_of_ble_eq_true rfl), (Nat.le_of_ble_eq_true rfl)⟩) hS (fun q _ h => hFc q h) hFc (fun r u t H1 locs ht hvm hw_368 hB hz1 hk1 hS => ?_)
  obtain ⟨hP1, hK1, hD1⟩ := hB
  rw [ht] at hP1
  have hK1 := va_K.moved hvm.symm hK1
  obtain ⟨hP, hD⟩ := va_join (wr := [(qb, .inl (cb, 512, .inl (fun _ => 0))), (qt, .inr (5, [.ref q7, .int 0, .int 0, .int 0, .int 0, .int 0])), (qp, .inr (7, [.ref q10, .ref q11, .int 0, .int 0])), (mo, .inr (8, fs)), (rt, .inl (ct, 26, .inl (fun _ => 0))), (rc, .inl (cc, 16384, .inl (fun _ => 0))), (ot, .inl (co, 1, .inr (.inl (fun _ => 0))))]) (w1 := [(de, .inr (0, [.ref qb, .int 0, .int (-1), .int 0, .int 0, .null, .ref qm, .ref qe, .ref qo, .ref qi, .ref qw, .ref qt, .ref qs, .ref qp])), (qm, .inl (cm, 26, .inr (.inr (.inr (.inr (fun _ => none))))))]) hP hD [0, 2] [1, 3, 4, 5, 6, 7, 8] rfl rfl (by decide) (by decide) hk1 hFc hP1 hD1
  generalize H1 = H at hP hS ⊢
  have hP : va_P (dC, dI) vwCl [(qb, .inl (cb, 512, .inl (fun _ => 0))), (qt, .inr (5, [.ref q7, .int 0, .int 0, .int 0, .int 0, .int 0])), (qp, .inr (7, [.ref q10, .ref q11, .int 0, .int 0])), (mo, .inr (8, fs)), (rt, .inl (ct, 26, .inl (fun _ => 0))), (rc, .inl (cc, 16384, .inl (fun _ => 0))), (ot, .inl (co, 1, .inr (.inl (fun _ => 0)))), (de, .inr (0, [.ref qb, .int 0, .int (-1), .int 0, .int 0, .null, .ref qm, .ref qe, .ref qo, .ref qi, .ref qw, .ref qt, .ref qs, .ref qp])), (qm, .inl (cm, 26, .inr (.inr (.inr (.inr (fun _ => none))))))] H := hP
  have hD : va_D (fun q : Nat => s.heap.size ≤ q) [(qb, .inl (cb, 512, .inl (fun _ => 0))), (qt, .inr (5, [.ref q7, .int 0, .int 0, .int 0, .int 0, .int 0])), (qp, .inr (7, [.ref q10, .ref q11, .int 0, .int 0])), (mo, .inr (8, fs)), (rt, .inl (ct, 26, .inl (fun _ => 0))), (rc, .inl (cc, 16384, .inl (fun _ => 0))), (ot, .inl (co, 1, .inr (.inl (fun _ => 0)))), (de, .inr (0, [.ref qb, .int 0, .int (-1), .int 0, .int 0, .null, .ref qm, .ref qe, .ref qo, .ref qi, .ref qw, .ref qt, .ref qs, .ref qp])), (qm, .inl (cm, 26, .inr (.inr (.inr (.inr (fun _ => none))))))] := hD
  subst hw_368
  refine lv_aload_n hx hb px_dL_371 rfl (lv_at hl 2 rfl) ?_
  refine lv_aload_n hx hb px_dL_372 rfl (lv_at hl 4 rfl) ?_
  refine lv_iload hx hb px_dL_373 (lv_at hl 0 rfl) ?_
  refine lv_iconst (v := 1) hx hb px_dL_375 (by decide) ?_
  refine lv_iadd hx hb px_dL_376 ?_
  refine lv_topi (nm_r (e' := (1 : Int32)) (by decide +kernel) ?_)
  refine va_sld hx hb hX hbl hbA hS (show vp_in (nI 1) 6 from vp_in_nI (by decide) (by decide)) px_dL_377 ?_
  refine lv_topi (nm_r (e' := xs 1) (congrArg xs (by decide +kernel)) ?_)
  have hPc := hP.sub (ws' := [(mo, .inr (8, fs)), (rt, .inl (ct, 26, .inl (fun _ => 0)))]) [3, 4] rfl
  have hDc := hD.sub (ws' := [(mo, .inr (8, fs)), (rt, .inl (ct, 26, .inl (fun _ => 0)))]) [3, 4] (by decide) rfl
  have hKc := hK.sub (tys' := [(ct, .boolean)]) [2] rfl
  have hFc := va_free (wc := [(mo, .inr (8, fs)), (rt, .inl (ct, 26, .inl (fun _ => 0)))]) hD hS hA [3, 4] rfl
  refine va_calli (va_runV (As := [.int (xs 1)]) (rest := [.int (-1)]) ⟨hx, hb, hml, hown, htw⟩ (px_M_elements l dC dI H.size mo fs rt ct (xs 1) hF.1 hF.2.1) (cwV 1 htw (px_gvl (List.mem_append_left _ px_v20) (List.mem_append_right _ px_w449) (List.mem_append_right _ px_w450) (List.mem_append_right _ px_w94) (px_gl px_g54)) rfl rfl rfl (by decide +kernel) ⟨Nat.le_of_ble_eq_true rfl, Nat.le_of_ble_eq_true rfl⟩) ⟨fun a U g mk q => by obtain ⟨q0, q1, qP, qK, qD, qN⟩ := q; exact ⟨q0, q1, qP, va_K.moved (u := U) (U := U.calling g mk a) (Vm.Alike.refl U.vm) qK, qD, qN.same rfl⟩, va_recv hK hP (ci := 8) (q0 := 3) rfl rfl, fun U hU hW => ⟨rfl, by rw [hU], by rw [hU]; exact hPc, va_K.moved hW.alike hKc, hDc.weaken (fun _ _ _ _ => trivial), hN.warm hW⟩⟩ rfl rfl hl.1 rfl (lv_room (Nat.le_of_ble_eq_true rfl)) px_dL_378 ⟨(Nat.le_of_ble_eq_true rfl), (Nat.le_of_ble_eq_true rfl)⟩) hS (fun q _ h => hFc q h) hFc (fun r u t H1 locs ht hvm hw_378 hB hz1 hk1 hS => ?_)
  obtain ⟨hP1, hK1, hD1⟩ := hB
  rw [ht] at hP1
  have hK1 := va_K.moved hvm.symm hK1
  obtain ⟨hP, hD⟩ := va_join (wr := [(qb, .inl (cb, 512, .inl (fun _ => 0))), (qt, .inr (5, [.ref q7, .int 0, .int 0, .int 0, .int 0, .int 0])), (qp, .inr (7, [.ref q10, .ref q11, .int 0, .int 0])), (rc, .inl (cc, 16384, .inl (fun _ => 0))), (ot, .inl (co, 1, .inr (.inl (fun _ => 0)))), (de, .inr (0, [.ref qb, .int 0, .int (-1), .int 0, .int 0, .null, .ref qm, .ref qe, .ref qo, .ref qi, .ref qw, .ref qt, .ref qs, .ref qp])), (qm, .inl (cm, 26, .inr (.inr (.inr (.inr (fun _ => none))))))]) (w1 := []) hP hD [3, 4] [0, 1, 2, 5, 6, 7, 8] rfl rfl (by decide) (by decide) hk1 hFc hP1 hD1
  generalize H1 = H at hP hS ⊢
  have hP : va_P (dC, dI) vwCl [(qb, .inl (cb, 512, .inl (fun _ => 0))), (qt, .inr (5, [.ref q7, .int 0, .int 0, .int 0, .int 0, .int 0])), (qp, .inr (7, [.ref q10, .ref q11, .int 0, .int 0])), (rc, .inl (cc, 16384, .inl (fun _ => 0))), (ot, .inl (co, 1, .inr (.inl (fun _ => 0)))), (de, .inr (0, [.ref qb, .int 0, .int (-1), .int 0, .int 0, .null, .ref qm, .ref qe, .ref qo, .ref qi, .ref qw, .ref qt, .ref qs, .ref qp])), (qm, .inl (cm, 26, .inr (.inr (.inr (.inr (fun _ => none))))))] H := hP
  have hD : va_D (fun q : Nat => s.heap.size ≤ q) [(qb, .inl (cb, 512, .inl (fun _ => 0))), (qt, .inr (5, [.ref q7, .int 0, .int 0, .int 0, .int 0, .int 0])), (qp, .inr (7, [.ref q10, .ref q11, .int 0, .int 0])), (rc, .inl (cc, 16384, .inl (fun _ => 0))), (ot, .inl (co, 1, .inr (.inl (fun _ => 0)))), (de, .inr (0, [.ref qb, .int 0, .int (-1), .int 0, .int 0, .null, .ref qm, .ref qe, .ref qo, .ref qi, .ref qw, .ref qt, .ref qs, .ref qp])), (qm, .inl (cm, 26, .inr (.inr (.inr (.inr (fun _ => none))))))] := hD
  subst hw_378
  refine lv_icmp_eq (tgt := 917) hx hb px_dL_381 (by decide) (fun _ => ?_) (fun h9 => absurd (by decide +kernel) h9)
  exact px_tail C0 (by decide) (by decide) hS (lv_sub hl [0, 4] rfl)
set_option maxHeartbeats 4000000 in
set_option maxRecDepth 100000 in
/-- case 8 of the law -/
theorem px_case8 {p : Program} {e : Env} {s : State} {m : MethodId} {below : List Frame} {meth : Method} {c : Code} {l : Launch} {b : Nat} {xs : Nat → Int32} (C0 : lw_At p s m meth c b 6 xs) {dC : Nat → ClassId} {dI : Nat → Nat → Nat} {de qb qm qe qo qi qw qt qs qp q7 q10 q11 mo rt rc ot : Nat} {cb cm ct cc co : ClassId} {fs : List Value} {H : Heap} {locs : List Loc} {ls : Array Slot} (hK : va_K (dC, dI) vwCl [(cb, .byte), (cm, .object "MatroidDesk$Matroid"), (ct, .boolean), (cc, .byte), (co, .long)] s) (hP : va_P (dC, dI) vwCl [(de, .inr (0, [.ref qb, .int 0, .int (-1), .int 0, .int 0, .null, .ref qm, .ref qe, .ref qo, .ref qi, .ref qw, .ref qt, .ref qs, .ref qp])), (qb, .inl (cb, 512, .inl (fun _ => 0))), (qm, .inl (cm, 26, .inr (.inr (.inr (.inr (fun _ => none)))))), (qt, .inr (5, [.ref q7, .int 0, .int 0, .int 0, .int 0, .int 0])), (qp, .inr (7, [.ref q10, .ref q11, .int 0, .int 0])), (mo, .inr (8, fs)), (rt, .inl (ct, 26, .inl (fun _ => 0))), (rc, .inl (cc, 16384, .inl (fun _ => 0))), (ot, .inl (co, 1, .inr (.inl (fun _ => 0))))] H) (hD : va_D (fun q : Nat => s.heap.size ≤ q) [(de, .inr (0, [.ref qb, .int 0, .int (-1), .int 0, .int 0, .null, .ref qm, .ref qe, .ref qo, .ref qi, .ref qw, .ref qt, .ref qs, .ref qp])), (qb, .inl (cb, 512, .inl (fun _ => 0))), (qm, .inl (cm, 26, .inr (.inr (.inr (.inr (fun _ => none)))))), (qt, .inr (5, [.ref q7, .int 0, .int 0, .int 0, .int 0, .int 0])), (qp, .inr (7, [.ref q10, .ref q11, .int 0, .int 0])), (mo, .inr (8, fs)), (rt, .inl (ct, 26, .inl (fun _ => 0))), (rc, .inl (cc, 16384, .inl (fun _ => 0))), (ot, .inl (co, 1, .inr (.inl (fun _ => 0))))]) (hS : va_S (fun q : Nat => s.heap.size ≤ q) s.heap H locs) (hN : px_N s) (hF : px_mdl fs rt rc) (hl : lv_has ls 7 [(4, .int 0), (3, .ref ot), (2, .ref mo), (1, .ref de), (0, .ref b)]) : W p l e room_1 s m #[Value.ref b] below meth c H locs 460 449508 (lw_Z below #[Value.ref b] s) (F0 m 386 ls []) := by
  obtain ⟨hx, hb, hr, hml, hown, hts, hX, hbl, hlocks, hgv⟩ := id C0
  have hown : s.vm.findClass "MatroidDeskLaw" = some m.cls := hown
  have htw : ∀ w ∈ px_tl, w.before _ s = true := fun w h => hts w (px_tl_in w h)
  have hA : ∀ q : Nat, s.heap.size ≤ q → (fun q : Nat => s.heap.size ≤ q) q := fun _ h => h
  have hbA : ¬ (fun q : Nat => s.heap.size ≤ q) b := Nat.not_le.mpr hbl
  refine lv_aload_n hx hb px_dL_386 rfl (lv_at hl 3 rfl) ?_
  refine lv_aload_n hx hb px_dL_387 rfl (lv_at hl 4 rfl) ?_
  refine lv_iload hx hb px_dL_388 (lv_at hl 0 rfl) ?_
  refine lv_iconst (v := 1) hx hb px_dL_390 (by decide) ?_
  refine lv_iadd hx hb px_dL_391 ?_
  refine lv_topi (nm_r (e' := (1 : Int32)) (by decide +kernel) ?_)
  refine va_sld hx hb hX hbl hbA hS (show vp_in (nI 1) 6 from vp_in_nI (by decide) (by decide)) px_dL_392 ?_
  refine lv_topi (nm_r (e' := xs 1) (congrArg xs (by decide +kernel)) ?_)
  have hPc := hP.sub (ws' := [(de, .inr (0, [.ref qb, .int 0, .int (-1), .int 0, .int 0, .null, .ref qm, .ref qe, .ref qo, .ref qi, .ref qw, .ref qt, .ref qs, .ref qp])), (qm, .inl (cm, 26, .inr (.inr (.inr (.inr (fun _ => none))))))]) [0, 2] rfl
  have hDc := hD.sub (ws' := [(de, .inr (0, [.ref qb, .int 0, .int (-1), .int 0, .int 0, .null, .ref qm, .ref qe, .ref qo, .ref qi, .ref qw, .ref qt, .ref qs, .ref qp])), (qm, .inl (cm, 26, .inr (.inr (.inr (.inr (fun _ => none))))))]) [0, 2] (by decide) rfl
  have hKc := hK.sub (tys' := [(cm, .object "MatroidDesk$Matroid")]) [1] rfl
  have hFc := va_free (wc := [(de, .inr (0, [.ref qb, .int 0, .int (-1), .int 0, .int 0, .null, .ref qm, .ref qe, .ref qo, .ref qi, .ref qw, .ref qt, .ref qs, .ref qp])), (qm, .inl (cm, 26, .inr (.inr (.inr (.inr (fun _ => none))))))]) hD hS hA [0, 2] rfl
  refine va_calli (va_runV (As := [.int (xs 1)]) (rest := []) ⟨hx, hb, hml, hown, htw⟩ (px_D_field l dC dI H.size de qb qm qe qo qi qw qt qs qp cm (xs 1)) (cwV 1 htw (px_gvl (List.mem_append_left _ px_v21) (List.mem_append_right _ px_w350) (List.mem_append_right _ px_w351) (List.mem_append_right _ px_w6) (px_gl px_g26)) rfl rfl rfl (by decide +kernel) ⟨Nat.le_of_ble_eq_true rfl, Nat.le_of_ble_eq_true rfl⟩) ⟨fun a U g mk q => by obtain ⟨q0, q1, qP, qK, qD, qN⟩ := q; exact ⟨q0, q1, qP, va_K.moved (u := U) (U := U.calling g mk a) (Vm.Alike.refl U.vm) qK, qD, qN.same rfl⟩, va_recv hK hP (ci := 0) (q0 := 0) rfl rfl, fun U hU hW => ⟨rfl, by rw [hU], by rw [hU]; exact hPc, va_K.moved hW.alike hKc, hDc.weaken (fun _ _ _ _ => trivial), hN.warm hW⟩⟩ rfl rfl hl.1 rfl (lv_room (Nat.le_of_ble_eq_true rfl)) px_dL_393 ⟨(Nat.le_of_ble_eq_true rfl), (Nat.le_of_ble_eq_true rfl)⟩) hS (fun q _ h => hFc q h) hFc (fun r u t H1 locs ht hvm hw_393 hB hz1 hk1 hS => ?_)
  obtain ⟨hP1, hK1, hD1⟩ := hB
  rw [ht] at hP1
  have hK1 := va_K.moved hvm.symm hK1
  obtain ⟨hP, hD⟩ := va_join (wr := [(qb, .inl (cb, 512, .inl (fun _ => 0))), (qt, .inr (5, [.ref q7, .int 0, .int 0, .int 0, .int 0, .int 0])), (qp, .inr (7, [.ref q10, .ref q11, .int 0, .int 0])), (mo, .inr (8, fs)), (rt, .inl (ct, 26, .inl (fun _ => 0))), (rc, .inl (cc, 16384, .inl (fun _ => 0))), (ot, .inl (co, 1, .inr (.inl (fun _ => 0))))]) (w1 := [(de, .inr (0, [.ref qb, .int 0, .int (-1), .int 0, .int 0, .null, .ref qm, .ref qe, .ref qo, .ref qi, .ref qw, .ref qt, .ref qs, .ref qp])), (qm, .inl (cm, 26, .inr (.inr (.inr (.inr (fun _ => none))))))]) hP hD [0, 2] [1, 3, 4, 5, 6, 7, 8] rfl rfl (by decide) (by decide) hk1 hFc hP1 hD1
  generalize H1 = H at hP hS ⊢
  have hP : va_P (dC, dI) vwCl [(qb, .inl (cb, 512, .inl (fun _ => 0))), (qt, .inr (5, [.ref q7, .int 0, .int 0, .int 0, .int 0, .int 0])), (qp, .inr (7, [.ref q10, .ref q11, .int 0, .int 0])), (mo, .inr (8, fs)), (rt, .inl (ct, 26, .inl (fun _ => 0))), (rc, .inl (cc, 16384, .inl (fun _ => 0))), (ot, .inl (co, 1, .inr (.inl (fun _ => 0)))), (de, .inr (0, [.ref qb, .int 0, .int (-1), .int 0, .int 0, .null, .ref qm, .ref qe, .ref qo, .ref qi, .ref qw, .ref qt, .ref qs, .ref qp])), (qm, .inl (cm, 26, .inr (.inr (.inr (.inr (fun _ => none))))))] H := hP
  have hD : va_D (fun q : Nat => s.heap.size ≤ q) [(qb, .inl (cb, 512, .inl (fun _ => 0))), (qt, .inr (5, [.ref q7, .int 0, .int 0, .int 0, .int 0, .int 0])), (qp, .inr (7, [.ref q10, .ref q11, .int 0, .int 0])), (mo, .inr (8, fs)), (rt, .inl (ct, 26, .inl (fun _ => 0))), (rc, .inl (cc, 16384, .inl (fun _ => 0))), (ot, .inl (co, 1, .inr (.inl (fun _ => 0)))), (de, .inr (0, [.ref qb, .int 0, .int (-1), .int 0, .int 0, .null, .ref qm, .ref qe, .ref qo, .ref qi, .ref qw, .ref qt, .ref qs, .ref qp])), (qm, .inl (cm, 26, .inr (.inr (.inr (.inr (fun _ => none))))))] := hD
  subst hw_393
  refine lv_aload_n hx hb px_dL_396 rfl (lv_at hl 2 rfl) ?_
  refine lv_aload_n hx hb px_dL_397 rfl (lv_at hl 4 rfl) ?_
  refine lv_iload hx hb px_dL_398 (lv_at hl 0 rfl) ?_
  refine lv_iconst (v := 1) hx hb px_dL_400 (by decide) ?_
  refine lv_iadd hx hb px_dL_401 ?_
  refine lv_topi (nm_r (e' := (1 : Int32)) (by decide +kernel) ?_)
  refine va_sld hx hb hX hbl hbA hS (show vp_in (nI 1) 6 from vp_in_nI (by decide) (by decide)) px_dL_402 ?_
  refine lv_topi (nm_r (e' := xs 1) (congrArg xs (by decide +kernel)) ?_)
  have hPc := hP.sub (ws' := [(mo, .inr (8, fs)), (rt, .inl (ct, 26, .inl (fun _ => 0)))]) [3, 4] rfl
  have hDc := hD.sub (ws' := [(mo, .inr (8, fs)), (rt, .inl (ct, 26, .inl (fun _ => 0)))]) [3, 4] (by decide) rfl
  have hKc := hK.sub (tys' := [(ct, .boolean)]) [2] rfl
  have hFc := va_free (wc := [(mo, .inr (8, fs)), (rt, .inl (ct, 26, .inl (fun _ => 0)))]) hD hS hA [3, 4] rfl
  refine va_calli (va_runV (As := [.int (xs 1)]) (rest := [.int (-1)]) ⟨hx, hb, hml, hown, htw⟩ (px_M_field l dC dI H.size mo fs rt ct (xs 1) hF.1 hF.2.1) (cwV 1 htw (px_gvl (List.mem_append_left _ px_v22) (List.mem_append_right _ px_w453) (List.mem_append_right _ px_w454) (List.mem_append_right _ px_w94) (px_gl px_g55)) rfl rfl rfl (by decide +kernel) ⟨Nat.le_of_ble_eq_true rfl, Nat.le_of_ble_eq_true rfl⟩) ⟨fun a U g mk q => by obtain ⟨q0, q1, qP, qK, qD, qN⟩ := q; exact ⟨q0, q1, qP, va_K.moved (u := U) (U := U.calling g mk a) (Vm.Alike.refl U.vm) qK, qD, qN.same rfl⟩, va_recv hK hP (ci := 8) (q0 := 3) rfl rfl, fun U hU hW => ⟨rfl, by rw [hU], by rw [hU]; exact hPc, va_K.moved hW.alike hKc, hDc.weaken (fun _ _ _ _ => trivial), hN.warm hW⟩⟩ rfl rfl hl.1 rfl (lv_room (Nat.le_of_ble_eq_true rfl)) px_dL_403 ⟨(Nat.le_of_ble_eq_true rfl), (Nat.le_of_ble_eq_true rfl)⟩) hS (fun q _ h => hFc q h) hFc (fun r u t H1 locs ht hvm hw_403 hB hz1 hk1 hS => ?_)
  obtain ⟨hP1, hK1, hD1⟩ := hB
  rw [ht] at hP1
  have hK1 := va_K.moved hvm.symm hK1
  obtain ⟨hP, hD⟩ := va_join (wr := [(qb, .inl (cb, 512, .inl (fun _ => 0))), (qt, .inr (5, [.ref q7, .int 0, .int 0, .int 0, .int 0, .int 0])), (qp, .inr (7, [.ref q10, .ref q11, .int 0, .int 0])), (rc, .inl (cc, 16384, .inl (fun _ => 0))), (ot, .inl (co, 1, .inr (.inl (fun _ => 0)))), (de, .inr (0, [.ref qb, .int 0, .int (-1), .int 0, .int 0, .null, .ref qm, .ref qe, .ref qo, .ref qi, .ref qw, .ref qt, .ref qs, .ref qp])), (qm, .inl (cm, 26, .inr (.inr (.inr (.inr (fun _ => none))))))]) (w1 := []) hP hD [3, 4] [0, 1, 2, 5, 6, 7, 8] rfl rfl (by decide) (by decide) hk1 hFc hP1 hD1
  generalize H1 = H at hP hS ⊢
  have hP : va_P (dC, dI) vwCl [(qb, .inl (cb, 512, .inl (fun _ => 0))), (qt, .inr (5, [.ref q7, .int 0, .int 0, .int 0, .int 0, .int 0])), (qp, .inr (7, [.ref q10, .ref q11, .int 0, .int 0])), (rc, .inl (cc, 16384, .inl (fun _ => 0))), (ot, .inl (co, 1, .inr (.inl (fun _ => 0)))), (de, .inr (0, [.ref qb, .int 0, .int (-1), .int 0, .int 0, .null, .ref qm, .ref qe, .ref qo, .ref qi, .ref qw, .ref qt, .ref qs, .ref qp])), (qm, .inl (cm, 26, .inr (.inr (.inr (.inr (fun _ => none))))))] H := hP
  have hD : va_D (fun q : Nat => s.heap.size ≤ q) [(qb, .inl (cb, 512, .inl (fun _ => 0))), (qt, .inr (5, [.ref q7, .int 0, .int 0, .int 0, .int 0, .int 0])), (qp, .inr (7, [.ref q10, .ref q11, .int 0, .int 0])), (rc, .inl (cc, 16384, .inl (fun _ => 0))), (ot, .inl (co, 1, .inr (.inl (fun _ => 0)))), (de, .inr (0, [.ref qb, .int 0, .int (-1), .int 0, .int 0, .null, .ref qm, .ref qe, .ref qo, .ref qi, .ref qw, .ref qt, .ref qs, .ref qp])), (qm, .inl (cm, 26, .inr (.inr (.inr (.inr (fun _ => none))))))] := hD
  subst hw_403
  refine lv_icmp_eq (tgt := 917) hx hb px_dL_406 (by decide) (fun _ => ?_) (fun h9 => absurd (by decide +kernel) h9)
  exact px_tail C0 (by decide) (by decide) hS (lv_sub hl [0, 4] rfl)
set_option maxHeartbeats 4000000 in
set_option maxRecDepth 100000 in
/-- case 9 of the law -/
theorem px_case9 {p : Program} {e : Env} {s : State} {m : MethodId} {below : List Frame} {meth : Method} {c : Code} {l : Launch} {b : Nat} {xs : Nat → Int32} (C0 : lw_At p s m meth c b 6 xs) {dC : Nat → ClassId} {dI : Nat → Nat → Nat} {de qb qm qe qo qi qw qt qs qp q7 q10 q11 mo rt rc ot : Nat} {cb cm ct cc co : ClassId} {fs : List Value} {H : Heap} {locs : List Loc} {ls : Array Slot} (hK : va_K (dC, dI) vwCl [(cb, .byte), (cm, .object "MatroidDesk$Matroid"), (ct, .boolean), (cc, .byte), (co, .long)] s) (hP : va_P (dC, dI) vwCl [(de, .inr (0, [.ref qb, .int 0, .int (-1), .int 0, .int 0, .null, .ref qm, .ref qe, .ref qo, .ref qi, .ref qw, .ref qt, .ref qs, .ref qp])), (qb, .inl (cb, 512, .inl (fun _ => 0))), (qm, .inl (cm, 26, .inr (.inr (.inr (.inr (fun _ => none)))))), (qt, .inr (5, [.ref q7, .int 0, .int 0, .int 0, .int 0, .int 0])), (qp, .inr (7, [.ref q10, .ref q11, .int 0, .int 0])), (mo, .inr (8, fs)), (rt, .inl (ct, 26, .inl (fun _ => 0))), (rc, .inl (cc, 16384, .inl (fun _ => 0))), (ot, .inl (co, 1, .inr (.inl (fun _ => 0))))] H) (hD : va_D (fun q : Nat => s.heap.size ≤ q) [(de, .inr (0, [.ref qb, .int 0, .int (-1), .int 0, .int 0, .null, .ref qm, .ref qe, .ref qo, .ref qi, .ref qw, .ref qt, .ref qs, .ref qp])), (qb, .inl (cb, 512, .inl (fun _ => 0))), (qm, .inl (cm, 26, .inr (.inr (.inr (.inr (fun _ => none)))))), (qt, .inr (5, [.ref q7, .int 0, .int 0, .int 0, .int 0, .int 0])), (qp, .inr (7, [.ref q10, .ref q11, .int 0, .int 0])), (mo, .inr (8, fs)), (rt, .inl (ct, 26, .inl (fun _ => 0))), (rc, .inl (cc, 16384, .inl (fun _ => 0))), (ot, .inl (co, 1, .inr (.inl (fun _ => 0))))]) (hS : va_S (fun q : Nat => s.heap.size ≤ q) s.heap H locs) (hN : px_N s) (hF : px_mdl fs rt rc) (hl : lv_has ls 7 [(4, .int 0), (3, .ref ot), (2, .ref mo), (1, .ref de), (0, .ref b)]) : W p l e room_1 s m #[Value.ref b] below meth c H locs 460 449508 (lw_Z below #[Value.ref b] s) (F0 m 411 ls []) := by
  obtain ⟨hx, hb, hr, hml, hown, hts, hX, hbl, hlocks, hgv⟩ := id C0
  have hown : s.vm.findClass "MatroidDeskLaw" = some m.cls := hown
  have htw : ∀ w ∈ px_tl, w.before _ s = true := fun w h => hts w (px_tl_in w h)
  have hA : ∀ q : Nat, s.heap.size ≤ q → (fun q : Nat => s.heap.size ≤ q) q := fun _ h => h
  have hbA : ¬ (fun q : Nat => s.heap.size ≤ q) b := Nat.not_le.mpr hbl
  refine lv_aload_n hx hb px_dL_411 rfl (lv_at hl 3 rfl) ?_
  refine lv_aload_n hx hb px_dL_412 rfl (lv_at hl 4 rfl) ?_
  refine lv_iload hx hb px_dL_413 (lv_at hl 0 rfl) ?_
  refine lv_iconst (v := 1) hx hb px_dL_415 (by decide) ?_
  refine lv_iadd hx hb px_dL_416 ?_
  refine lv_topi (nm_r (e' := (1 : Int32)) (by decide +kernel) ?_)
  refine va_sld hx hb hX hbl hbA hS (show vp_in (nI 1) 6 from vp_in_nI (by decide) (by decide)) px_dL_417 ?_
  refine lv_topi (nm_r (e' := xs 1) (congrArg xs (by decide +kernel)) ?_)
  refine lv_aload_n hx hb px_dL_418 rfl (lv_at hl 4 rfl) ?_
  refine lv_iload hx hb px_dL_419 (lv_at hl 0 rfl) ?_
  refine lv_iconst (v := 2) hx hb px_dL_421 (by decide) ?_
  refine lv_iadd hx hb px_dL_422 ?_
  refine lv_topi (nm_r (e' := (2 : Int32)) (by decide +kernel) ?_)
  refine va_sld hx hb hX hbl hbA hS (show vp_in (nI 2) 6 from vp_in_nI (by decide) (by decide)) px_dL_423 ?_
  refine lv_topi (nm_r (e' := xs 2) (congrArg xs (by decide +kernel)) ?_)
  have hPc := hP.sub (ws' := [(de, .inr (0, [.ref qb, .int 0, .int (-1), .int 0, .int 0, .null, .ref qm, .ref qe, .ref qo, .ref qi, .ref qw, .ref qt, .ref qs, .ref qp])), (qm, .inl (cm, 26, .inr (.inr (.inr (.inr (fun _ => none))))))]) [0, 2] rfl
  have hDc := hD.sub (ws' := [(de, .inr (0, [.ref qb, .int 0, .int (-1), .int 0, .int 0, .null, .ref qm, .ref qe, .ref qo, .ref qi, .ref qw, .ref qt, .ref qs, .ref qp])), (qm, .inl (cm, 26, .inr (.inr (.inr (.inr (fun _ => none))))))]) [0, 2] (by decide) rfl
  have hKc := hK.sub (tys' := [(cm, .object "MatroidDesk$Matroid")]) [1] rfl
  have hFc := va_free (wc := [(de, .inr (0, [.ref qb, .int 0, .int (-1), .int 0, .int 0, .null, .ref qm, .ref qe, .ref qo, .ref qi, .ref qw, .ref qt, .ref qs, .ref qp])), (qm, .inl (cm, 26, .inr (.inr (.inr (.inr (fun _ => none))))))]) hD hS hA [0, 2] rfl
  refine va_calli (va_runV (As := [.int (xs 1), .int (xs 2)]) (rest := []) ⟨hx, hb, hml, hown, htw⟩ (px_D_rank l dC dI H.size de qb qm qe qo qi qw qt qs qp cm (xs 1) (xs 2)) (cwV 2 htw (px_gvl (List.mem_append_left _ px_v23) (List.mem_append_right _ px_w353) (List.mem_append_right _ px_w354) (List.mem_append_right _ px_w6) (px_gl px_g27)) rfl rfl rfl (by decide +kernel) ⟨Nat.le_of_ble_eq_true rfl, Nat.le_of_ble_eq_true rfl⟩) ⟨fun a U g mk q => by obtain ⟨q0, q1, qP, qK, qD, qN⟩ := q; exact ⟨q0, q1, qP, va_K.moved (u := U) (U := U.calling g mk a) (Vm.Alike.refl U.vm) qK, qD, qN.same rfl⟩, va_recv hK hP (ci := 0) (q0 := 0) rfl rfl, fun U hU hW => ⟨rfl, by rw [hU], by rw [hU]; exact hPc, va_K.moved hW.alike hKc, hDc.weaken (fun _ _ _ _ => trivial), hN.warm hW⟩⟩ rfl rfl hl.1 rfl (lv_room (Nat.le_of_ble_eq_true rfl)) px_dL_424 ⟨(Nat.le_of_ble_eq_true rfl), (Nat.le_of_ble_eq_true rfl)⟩) hS (fun q _ h => hFc q h) hFc (fun r u t H1 locs ht hvm hw_424 hB hz1 hk1 hS => ?_)
  obtain ⟨hP1, hK1, hD1⟩ := hB
  rw [ht] at hP1
  have hK1 := va_K.moved hvm.symm hK1
  obtain ⟨hP, hD⟩ := va_join (wr := [(qb, .inl (cb, 512, .inl (fun _ => 0))), (qt, .inr (5, [.ref q7, .int 0, .int 0, .int 0, .int 0, .int 0])), (qp, .inr (7, [.ref q10, .ref q11, .int 0, .int 0])), (mo, .inr (8, fs)), (rt, .inl (ct, 26, .inl (fun _ => 0))), (rc, .inl (cc, 16384, .inl (fun _ => 0))), (ot, .inl (co, 1, .inr (.inl (fun _ => 0))))]) (w1 := [(de, .inr (0, [.ref qb, .int 0, .int (-1), .int 0, .int 0, .null, .ref qm, .ref qe, .ref qo, .ref qi, .ref qw, .ref qt, .ref qs, .ref qp])), (qm, .inl (cm, 26, .inr (.inr (.inr (.inr (fun _ => none))))))]) hP hD [0, 2] [1, 3, 4, 5, 6, 7, 8] rfl rfl (by decide) (by decide) hk1 hFc hP1 hD1
  generalize H1 = H at hP hS ⊢
  have hP : va_P (dC, dI) vwCl [(qb, .inl (cb, 512, .inl (fun _ => 0))), (qt, .inr (5, [.ref q7, .int 0, .int 0, .int 0, .int 0, .int 0])), (qp, .inr (7, [.ref q10, .ref q11, .int 0, .int 0])), (mo, .inr (8, fs)), (rt, .inl (ct, 26, .inl (fun _ => 0))), (rc, .inl (cc, 16384, .inl (fun _ => 0))), (ot, .inl (co, 1, .inr (.inl (fun _ => 0)))), (de, .inr (0, [.ref qb, .int 0, .int (-1), .int 0, .int 0, .null, .ref qm, .ref qe, .ref qo, .ref qi, .ref qw, .ref qt, .ref qs, .ref qp])), (qm, .inl (cm, 26, .inr (.inr (.inr (.inr (fun _ => none))))))] H := hP
  have hD : va_D (fun q : Nat => s.heap.size ≤ q) [(qb, .inl (cb, 512, .inl (fun _ => 0))), (qt, .inr (5, [.ref q7, .int 0, .int 0, .int 0, .int 0, .int 0])), (qp, .inr (7, [.ref q10, .ref q11, .int 0, .int 0])), (mo, .inr (8, fs)), (rt, .inl (ct, 26, .inl (fun _ => 0))), (rc, .inl (cc, 16384, .inl (fun _ => 0))), (ot, .inl (co, 1, .inr (.inl (fun _ => 0)))), (de, .inr (0, [.ref qb, .int 0, .int (-1), .int 0, .int 0, .null, .ref qm, .ref qe, .ref qo, .ref qi, .ref qw, .ref qt, .ref qs, .ref qp])), (qm, .inl (cm, 26, .inr (.inr (.inr (.inr (fun _ => none))))))] := hD
  subst hw_424
  refine lv_aload_n hx hb px_dL_427 rfl (lv_at hl 2 rfl) ?_
  refine lv_aload_n hx hb px_dL_428 rfl (lv_at hl 4 rfl) ?_
  refine lv_iload hx hb px_dL_429 (lv_at hl 0 rfl) ?_
  refine lv_iconst (v := 1) hx hb px_dL_431 (by decide) ?_
  refine lv_iadd hx hb px_dL_432 ?_
  refine lv_topi (nm_r (e' := (1 : Int32)) (by decide +kernel) ?_)
  refine va_sld hx hb hX hbl hbA hS (show vp_in (nI 1) 6 from vp_in_nI (by decide) (by decide)) px_dL_433 ?_
  refine lv_topi (nm_r (e' := xs 1) (congrArg xs (by decide +kernel)) ?_)
  refine lv_aload_n hx hb px_dL_434 rfl (lv_at hl 4 rfl) ?_
  refine lv_iload hx hb px_dL_435 (lv_at hl 0 rfl) ?_
  refine lv_iconst (v := 2) hx hb px_dL_437 (by decide) ?_
  refine lv_iadd hx hb px_dL_438 ?_
  refine lv_topi (nm_r (e' := (2 : Int32)) (by decide +kernel) ?_)
  refine va_sld hx hb hX hbl hbA hS (show vp_in (nI 2) 6 from vp_in_nI (by decide) (by decide)) px_dL_439 ?_
  refine lv_topi (nm_r (e' := xs 2) (congrArg xs (by decide +kernel)) ?_)
  have hPc := hP.sub (ws' := [(mo, .inr (8, fs)), (rt, .inl (ct, 26, .inl (fun _ => 0)))]) [3, 4] rfl
  have hDc := hD.sub (ws' := [(mo, .inr (8, fs)), (rt, .inl (ct, 26, .inl (fun _ => 0)))]) [3, 4] (by decide) rfl
  have hKc := hK.sub (tys' := [(ct, .boolean)]) [2] rfl
  have hFc := va_free (wc := [(mo, .inr (8, fs)), (rt, .inl (ct, 26, .inl (fun _ => 0)))]) hD hS hA [3, 4] rfl
  refine va_calli (va_runV (As := [.int (xs 1), .int (xs 2)]) (rest := [.int (-1)]) ⟨hx, hb, hml, hown, htw⟩ (px_M_rank l dC dI H.size mo fs rt ct (xs 1) (xs 2) hF.1 hF.2.1) (cwV 2 htw (px_gvl (List.mem_append_left _ px_v24) (List.mem_append_right _ px_w456) (List.mem_append_right _ px_w457) (List.mem_append_right _ px_w94) (px_gl px_g56)) rfl rfl rfl (by decide +kernel) ⟨Nat.le_of_ble_eq_true rfl, Nat.le_of_ble_eq_true rfl⟩) ⟨fun a U g mk q => by obtain ⟨q0, q1, qP, qK, qD, qN⟩ := q; exact ⟨q0, q1, qP, va_K.moved (u := U) (U := U.calling g mk a) (Vm.Alike.refl U.vm) qK, qD, qN.same rfl⟩, va_recv hK hP (ci := 8) (q0 := 3) rfl rfl, fun U hU hW => ⟨rfl, by rw [hU], by rw [hU]; exact hPc, va_K.moved hW.alike hKc, hDc.weaken (fun _ _ _ _ => trivial), hN.warm hW⟩⟩ rfl rfl hl.1 rfl (lv_room (Nat.le_of_ble_eq_true rfl)) px_dL_440 ⟨(Nat.le_of_ble_eq_true rfl), (Nat.le_of_ble_eq_true rfl)⟩) hS (fun q _ h => hFc q h) hFc (fun r u t H1 locs ht hvm hw_440 hB hz1 hk1 hS => ?_)
  obtain ⟨hP1, hK1, hD1⟩ := hB
  rw [ht] at hP1
  have hK1 := va_K.moved hvm.symm hK1
  obtain ⟨hP, hD⟩ := va_join (wr := [(qb, .inl (cb, 512, .inl (fun _ => 0))), (qt, .inr (5, [.ref q7, .int 0, .int 0, .int 0, .int 0, .int 0])), (qp, .inr (7, [.ref q10, .ref q11, .int 0, .int 0])), (rc, .inl (cc, 16384, .inl (fun _ => 0))), (ot, .inl (co, 1, .inr (.inl (fun _ => 0)))), (de, .inr (0, [.ref qb, .int 0, .int (-1), .int 0, .int 0, .null, .ref qm, .ref qe, .ref qo, .ref qi, .ref qw, .ref qt, .ref qs, .ref qp])), (qm, .inl (cm, 26, .inr (.inr (.inr (.inr (fun _ => none))))))]) (w1 := []) hP hD [3, 4] [0, 1, 2, 5, 6, 7, 8] rfl rfl (by decide) (by decide) hk1 hFc hP1 hD1
  generalize H1 = H at hP hS ⊢
  have hP : va_P (dC, dI) vwCl [(qb, .inl (cb, 512, .inl (fun _ => 0))), (qt, .inr (5, [.ref q7, .int 0, .int 0, .int 0, .int 0, .int 0])), (qp, .inr (7, [.ref q10, .ref q11, .int 0, .int 0])), (rc, .inl (cc, 16384, .inl (fun _ => 0))), (ot, .inl (co, 1, .inr (.inl (fun _ => 0)))), (de, .inr (0, [.ref qb, .int 0, .int (-1), .int 0, .int 0, .null, .ref qm, .ref qe, .ref qo, .ref qi, .ref qw, .ref qt, .ref qs, .ref qp])), (qm, .inl (cm, 26, .inr (.inr (.inr (.inr (fun _ => none))))))] H := hP
  have hD : va_D (fun q : Nat => s.heap.size ≤ q) [(qb, .inl (cb, 512, .inl (fun _ => 0))), (qt, .inr (5, [.ref q7, .int 0, .int 0, .int 0, .int 0, .int 0])), (qp, .inr (7, [.ref q10, .ref q11, .int 0, .int 0])), (rc, .inl (cc, 16384, .inl (fun _ => 0))), (ot, .inl (co, 1, .inr (.inl (fun _ => 0)))), (de, .inr (0, [.ref qb, .int 0, .int (-1), .int 0, .int 0, .null, .ref qm, .ref qe, .ref qo, .ref qi, .ref qw, .ref qt, .ref qs, .ref qp])), (qm, .inl (cm, 26, .inr (.inr (.inr (.inr (fun _ => none))))))] := hD
  subst hw_440
  refine lv_icmp_eq (tgt := 917) hx hb px_dL_443 (by decide) (fun _ => ?_) (fun h9 => absurd (by decide +kernel) h9)
  exact px_tail C0 (by decide) (by decide) hS (lv_sub hl [0, 4] rfl)
