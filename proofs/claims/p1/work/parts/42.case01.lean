set_option maxHeartbeats 4000000 in
set_option maxRecDepth 100000 in
/-- case 0 of the law -/
theorem px_case0 {p : Program} {e : Env} {s : State} {m : MethodId} {below : List Frame} {meth : Method} {c : Code} {l : Launch} {b : Nat} {xs : Nat → Int32} (C0 : lw_At p s m meth c b 6 xs) {dC : Nat → ClassId} {dI : Nat → Nat → Nat} {de qb qm qe qo qi qw qt qs qp q7 q10 q11 mo rt rc ot : Nat} {cb cm ct cc co : ClassId} {fs : List Value} {H : Heap} {locs : List Loc} {ls : Array Slot} (hK : va_K (dC, dI) vwCl [(cb, .byte), (cm, .object "MatroidDesk$Matroid"), (ct, .boolean), (cc, .byte), (co, .long)] s) (hP : va_P (dC, dI) vwCl [(de, .inr (0, [.ref qb, .int 0, .int (-1), .int 0, .int 0, .null, .ref qm, .ref qe, .ref qo, .ref qi, .ref qw, .ref qt, .ref qs, .ref qp])), (qb, .inl (cb, 512, .inl (fun _ => 0))), (qm, .inl (cm, 26, .inr (.inr (.inr (.inr (fun _ => none)))))), (qt, .inr (5, [.ref q7, .int 0, .int 0, .int 0, .int 0, .int 0])), (qp, .inr (7, [.ref q10, .ref q11, .int 0, .int 0])), (mo, .inr (8, fs)), (rt, .inl (ct, 26, .inl (fun _ => 0))), (rc, .inl (cc, 16384, .inl (fun _ => 0))), (ot, .inl (co, 1, .inr (.inl (fun _ => 0))))] H) (hD : va_D (fun q : Nat => s.heap.size ≤ q) [(de, .inr (0, [.ref qb, .int 0, .int (-1), .int 0, .int 0, .null, .ref qm, .ref qe, .ref qo, .ref qi, .ref qw, .ref qt, .ref qs, .ref qp])), (qb, .inl (cb, 512, .inl (fun _ => 0))), (qm, .inl (cm, 26, .inr (.inr (.inr (.inr (fun _ => none)))))), (qt, .inr (5, [.ref q7, .int 0, .int 0, .int 0, .int 0, .int 0])), (qp, .inr (7, [.ref q10, .ref q11, .int 0, .int 0])), (mo, .inr (8, fs)), (rt, .inl (ct, 26, .inl (fun _ => 0))), (rc, .inl (cc, 16384, .inl (fun _ => 0))), (ot, .inl (co, 1, .inr (.inl (fun _ => 0))))]) (hS : va_S (fun q : Nat => s.heap.size ≤ q) s.heap H locs) (hN : px_N s) (hF : px_mdl fs rt rc) (hl : lv_has ls 7 [(4, .int 0), (3, .ref ot), (2, .ref mo), (1, .ref de), (0, .ref b)]) : W p l e room_1 s m #[Value.ref b] below meth c H locs 460 449508 (lw_Z below #[Value.ref b] s) (F0 m 144 ls []) := by
  obtain ⟨hx, hb, hr, hml, hown, hts, hX, hbl, hlocks, hgv⟩ := id C0
  have hown : s.vm.findClass "MatroidDeskLaw" = some m.cls := hown
  have htw : ∀ w ∈ px_tl, w.before _ s = true := fun w h => hts w (px_tl_in w h)
  have hA : ∀ q : Nat, s.heap.size ≤ q → (fun q : Nat => s.heap.size ≤ q) q := fun _ h => h
  have hbA : ¬ (fun q : Nat => s.heap.size ≤ q) b := Nat.not_le.mpr hbl
  refine lv_aload_n hx hb px_dL_144 rfl (lv_at hl 3 rfl) ?_
  refine lv_aload_n hx hb px_dL_145 rfl (lv_at hl 4 rfl) ?_
  refine lv_iload hx hb px_dL_146 (lv_at hl 0 rfl) ?_
  refine lv_iconst (v := 1) hx hb px_dL_148 (by decide) ?_
  refine lv_iadd hx hb px_dL_149 ?_
  refine lv_topi (nm_r (e' := (1 : Int32)) (by decide +kernel) ?_)
  refine va_sld hx hb hX hbl hbA hS (show vp_in (nI 1) 6 from vp_in_nI (by decide) (by decide)) px_dL_150 ?_
  refine lv_topi (nm_r (e' := xs 1) (congrArg xs (by decide +kernel)) ?_)
  refine lv_aload_n hx hb px_dL_151 rfl (lv_at hl 4 rfl) ?_
  refine lv_iload hx hb px_dL_152 (lv_at hl 0 rfl) ?_
  refine lv_iconst (v := 2) hx hb px_dL_154 (by decide) ?_
  refine lv_iadd hx hb px_dL_155 ?_
  refine lv_topi (nm_r (e' := (2 : Int32)) (by decide +kernel) ?_)
  refine va_sld hx hb hX hbl hbA hS (show vp_in (nI 2) 6 from vp_in_nI (by decide) (by decide)) px_dL_156 ?_
  refine lv_topi (nm_r (e' := xs 2) (congrArg xs (by decide +kernel)) ?_)
  refine lv_aload_n hx hb px_dL_157 rfl (lv_at hl 4 rfl) ?_
  refine lv_iload hx hb px_dL_158 (lv_at hl 0 rfl) ?_
  refine lv_iconst (v := 3) hx hb px_dL_160 (by decide) ?_
  refine lv_iadd hx hb px_dL_161 ?_
  refine lv_topi (nm_r (e' := (3 : Int32)) (by decide +kernel) ?_)
  refine va_sld hx hb hX hbl hbA hS (show vp_in (nI 3) 6 from vp_in_nI (by decide) (by decide)) px_dL_162 ?_
  refine lv_topi (nm_r (e' := xs 3) (congrArg xs (by decide +kernel)) ?_)
  refine lv_aload_n hx hb px_dL_163 rfl (lv_at hl 4 rfl) ?_
  refine lv_iload hx hb px_dL_164 (lv_at hl 0 rfl) ?_
  refine lv_iconst (v := 4) hx hb px_dL_166 (by decide) ?_
  refine lv_iadd hx hb px_dL_167 ?_
  refine lv_topi (nm_r (e' := (4 : Int32)) (by decide +kernel) ?_)
  refine va_sld hx hb hX hbl hbA hS (show vp_in (nI 4) 6 from vp_in_nI (by decide) (by decide)) px_dL_168 ?_
  refine lv_topi (nm_r (e' := xs 4) (congrArg xs (by decide +kernel)) ?_)
  refine lv_aload_n hx hb px_dL_169 rfl (lv_at hl 4 rfl) ?_
  refine lv_iload hx hb px_dL_170 (lv_at hl 0 rfl) ?_
  refine lv_iconst (v := 5) hx hb px_dL_172 (by decide) ?_
  refine lv_iadd hx hb px_dL_173 ?_
  refine lv_topi (nm_r (e' := (5 : Int32)) (by decide +kernel) ?_)
  refine va_sld hx hb hX hbl hbA hS (show vp_in (nI 5) 6 from vp_in_nI (by decide) (by decide)) px_dL_174 ?_
  refine lv_topi (nm_r (e' := xs 5) (congrArg xs (by decide +kernel)) ?_)
  have hPc := hP.sub (ws' := [(de, .inr (0, [.ref qb, .int 0, .int (-1), .int 0, .int 0, .null, .ref qm, .ref qe, .ref qo, .ref qi, .ref qw, .ref qt, .ref qs, .ref qp])), (qb, .inl (cb, 512, .inl (fun _ => 0)))]) [0, 1] rfl
  have hDc := hD.sub (ws' := [(de, .inr (0, [.ref qb, .int 0, .int (-1), .int 0, .int 0, .null, .ref qm, .ref qe, .ref qo, .ref qi, .ref qw, .ref qt, .ref qs, .ref qp])), (qb, .inl (cb, 512, .inl (fun _ => 0)))]) [0, 1] (by decide) rfl
  have hKc := hK.sub (tys' := [(cb, .byte)]) [0] rfl
  have hFc := va_free (wc := [(de, .inr (0, [.ref qb, .int 0, .int (-1), .int 0, .int 0, .null, .ref qm, .ref qe, .ref qo, .ref qi, .ref qw, .ref qt, .ref qs, .ref qp])), (qb, .inl (cb, 512, .inl (fun _ => 0)))]) hD hS hA [0, 1] rfl
  refine va_calli (px_runSW (As := [.ref de, .int (xs 1), .int (xs 2), .int (xs 3), .int (xs 4), .int (xs 5)]) (rest := []) (hs := [(0, 11, 14, 13)]) (bytes := method_3_code) (maxL := 7) (ret := (some .int)) (n := 6) ⟨hx, hb, hml, hown, htw⟩ (px_L_feed l dC dI H.size de qb qm qe qo qi qw qt qs qp cb (xs 1) (xs 2) (xs 3) (xs 4) (xs 5)) rfl rfl ⟨Nat.le_of_ble_eq_true rfl, Nat.le_of_ble_eq_true rfl⟩ (pay_in htw px_g69) List.mem_cons_self (htw _ (List.mem_append_right _ px_w154)) (htw _ (List.mem_append_right _ px_w496)) (htw _ (List.mem_append_left _ px_v4)) ⟨by decide, by decide⟩ (by decide +kernel) ⟨fun a U g mk q => by obtain ⟨q0, q1, qP, qK, qD, qN⟩ := q; exact ⟨q0, q1, qP, va_K.moved (u := U) (U := U.calling g mk a) (Vm.Alike.refl U.vm) qK, qD, qN.same rfl⟩, fun U hU hW => ⟨rfl, by rw [hU], by rw [hU]; exact hPc, va_K.moved hW.alike hKc, hDc.weaken (fun _ _ _ _ => trivial), hN.warm hW⟩⟩ rfl rfl hl.1 rfl (lv_room (Nat.le_of_ble_eq_true rfl)) px_dL_175 ⟨(Nat.le_of_ble_eq_true rfl), (Nat.le_of_ble_eq_true rfl)⟩) hS (fun q _ h => hFc q h) hFc (fun r u t H1 locs ht hvm hw_175 hB hz1 hk1 hS => ?_)
  obtain ⟨hP1, hK1, hD1⟩ := hB
  rw [ht] at hP1
  have hK1 := va_K.moved hvm.symm hK1
  obtain ⟨hP, hD⟩ := va_join (wr := [(qm, .inl (cm, 26, .inr (.inr (.inr (.inr (fun _ => none)))))), (qt, .inr (5, [.ref q7, .int 0, .int 0, .int 0, .int 0, .int 0])), (qp, .inr (7, [.ref q10, .ref q11, .int 0, .int 0])), (mo, .inr (8, fs)), (rt, .inl (ct, 26, .inl (fun _ => 0))), (rc, .inl (cc, 16384, .inl (fun _ => 0))), (ot, .inl (co, 1, .inr (.inl (fun _ => 0))))]) (w1 := []) hP hD [0, 1] [2, 3, 4, 5, 6, 7, 8] rfl rfl (by decide) (by decide) hk1 hFc hP1 hD1
  generalize H1 = H at hP hS ⊢
  have hP : va_P (dC, dI) vwCl [(qm, .inl (cm, 26, .inr (.inr (.inr (.inr (fun _ => none)))))), (qt, .inr (5, [.ref q7, .int 0, .int 0, .int 0, .int 0, .int 0])), (qp, .inr (7, [.ref q10, .ref q11, .int 0, .int 0])), (mo, .inr (8, fs)), (rt, .inl (ct, 26, .inl (fun _ => 0))), (rc, .inl (cc, 16384, .inl (fun _ => 0))), (ot, .inl (co, 1, .inr (.inl (fun _ => 0))))] H := hP
  have hD : va_D (fun q : Nat => s.heap.size ≤ q) [(qm, .inl (cm, 26, .inr (.inr (.inr (.inr (fun _ => none)))))), (qt, .inr (5, [.ref q7, .int 0, .int 0, .int 0, .int 0, .int 0])), (qp, .inr (7, [.ref q10, .ref q11, .int 0, .int 0])), (mo, .inr (8, fs)), (rt, .inl (ct, 26, .inl (fun _ => 0))), (rc, .inl (cc, 16384, .inl (fun _ => 0))), (ot, .inl (co, 1, .inr (.inl (fun _ => 0))))] := hD
  subst hw_175
  refine lv_istore (lv' := [(5, .int 0), (4, .int 0), (3, .ref ot), (2, .ref mo), (1, .ref de), (0, .ref b)]) hx hb px_dL_178 hl (by decide) rfl (fun ls hl => ?_)
  refine lv_aload_n hx hb px_dL_180 rfl (lv_at hl 3 rfl) ?_
  refine lv_aload_n hx hb px_dL_181 rfl (lv_at hl 5 rfl) ?_
  refine lv_iload hx hb px_dL_182 (lv_at hl 1 rfl) ?_
  refine lv_iconst (v := 1) hx hb px_dL_184 (by decide) ?_
  refine lv_iadd hx hb px_dL_185 ?_
  refine lv_topi (nm_r (e' := (1 : Int32)) (by decide +kernel) ?_)
  refine va_sld hx hb hX hbl hbA hS (show vp_in (nI 1) 6 from vp_in_nI (by decide) (by decide)) px_dL_186 ?_
  refine lv_topi (nm_r (e' := xs 1) (congrArg xs (by decide +kernel)) ?_)
  refine lv_aload_n hx hb px_dL_187 rfl (lv_at hl 5 rfl) ?_
  refine lv_iload hx hb px_dL_188 (lv_at hl 1 rfl) ?_
  refine lv_iconst (v := 2) hx hb px_dL_190 (by decide) ?_
  refine lv_iadd hx hb px_dL_191 ?_
  refine lv_topi (nm_r (e' := (2 : Int32)) (by decide +kernel) ?_)
  refine va_sld hx hb hX hbl hbA hS (show vp_in (nI 2) 6 from vp_in_nI (by decide) (by decide)) px_dL_192 ?_
  refine lv_topi (nm_r (e' := xs 2) (congrArg xs (by decide +kernel)) ?_)
  refine lv_aload_n hx hb px_dL_193 rfl (lv_at hl 5 rfl) ?_
  refine lv_iload hx hb px_dL_194 (lv_at hl 1 rfl) ?_
  refine lv_iconst (v := 3) hx hb px_dL_196 (by decide) ?_
  refine lv_iadd hx hb px_dL_197 ?_
  refine lv_topi (nm_r (e' := (3 : Int32)) (by decide +kernel) ?_)
  refine va_sld hx hb hX hbl hbA hS (show vp_in (nI 3) 6 from vp_in_nI (by decide) (by decide)) px_dL_198 ?_
  refine lv_topi (nm_r (e' := xs 3) (congrArg xs (by decide +kernel)) ?_)
  refine lv_aload_n hx hb px_dL_199 rfl (lv_at hl 5 rfl) ?_
  refine lv_iload hx hb px_dL_200 (lv_at hl 1 rfl) ?_
  refine lv_iconst (v := 4) hx hb px_dL_202 (by decide) ?_
  refine lv_iadd hx hb px_dL_203 ?_
  refine lv_topi (nm_r (e' := (4 : Int32)) (by decide +kernel) ?_)
  refine va_sld hx hb hX hbl hbA hS (show vp_in (nI 4) 6 from vp_in_nI (by decide) (by decide)) px_dL_204 ?_
  refine lv_topi (nm_r (e' := xs 4) (congrArg xs (by decide +kernel)) ?_)
  refine lv_aload_n hx hb px_dL_205 rfl (lv_at hl 5 rfl) ?_
  refine lv_iload hx hb px_dL_206 (lv_at hl 1 rfl) ?_
  refine lv_iconst (v := 5) hx hb px_dL_208 (by decide) ?_
  refine lv_iadd hx hb px_dL_209 ?_
  refine lv_topi (nm_r (e' := (5 : Int32)) (by decide +kernel) ?_)
  refine va_sld hx hb hX hbl hbA hS (show vp_in (nI 5) 6 from vp_in_nI (by decide) (by decide)) px_dL_210 ?_
  refine lv_topi (nm_r (e' := xs 5) (congrArg xs (by decide +kernel)) ?_)
  have hPc := hP.sub (ws' := [(mo, .inr (8, fs)), (rc, .inl (cc, 16384, .inl (fun _ => 0)))]) [3, 5] rfl
  have hDc := hD.sub (ws' := [(mo, .inr (8, fs)), (rc, .inl (cc, 16384, .inl (fun _ => 0)))]) [3, 5] (by decide) rfl
  have hKc := hK.sub (tys' := [(cc, .byte)]) [3] rfl
  have hFc := va_free (wc := [(mo, .inr (8, fs)), (rc, .inl (cc, 16384, .inl (fun _ => 0)))]) hD hS hA [3, 5] rfl
  refine va_callv (va_runV (As := [.int (xs 1), .int (xs 2), .int (xs 3), .int (xs 4), .int (xs 5)]) (rest := []) ⟨hx, hb, hml, hown, htw⟩ (px_M_feed l dC dI H.size mo fs rc cc (xs 1) (xs 2) (xs 3) (xs 4) (xs 5) hF.1 hF.2.2.1 hF.2.2.2.1) (cwV 5 htw (px_gvl (List.mem_append_left _ px_v5) (List.mem_append_right _ px_w400) (List.mem_append_right _ px_w401) (List.mem_append_right _ px_w94) (px_gl px_g42)) rfl rfl rfl (by decide +kernel) ⟨Nat.le_of_ble_eq_true rfl, Nat.le_of_ble_eq_true rfl⟩) ⟨fun a U g mk q => by obtain ⟨q0, q1, qP, qK, qD, qN⟩ := q; exact ⟨q0, q1, qP, va_K.moved (u := U) (U := U.calling g mk a) (Vm.Alike.refl U.vm) qK, qD, qN.same rfl⟩, va_recv hK hP (ci := 8) (q0 := 3) rfl rfl, fun U hU hW => ⟨rfl, by rw [hU], by rw [hU]; exact hPc, va_K.moved hW.alike hKc, hDc.weaken (fun _ _ _ _ => trivial), hN.warm hW⟩⟩ rfl rfl hl.1 rfl (lv_room (Nat.le_of_ble_eq_true rfl)) px_dL_211 ⟨(Nat.le_of_ble_eq_true rfl), (Nat.le_of_ble_eq_true rfl)⟩) hS (fun q _ h => hFc q h) hFc (fun u t H1 locs ht hvm hw_211 hB hz1 hk1 hS => ?_)
  obtain ⟨hP1, hK1, hD1⟩ := hB
  rw [ht] at hP1
  have hK1 := va_K.moved hvm.symm hK1
  obtain ⟨hP, hD⟩ := va_join (wr := [(qm, .inl (cm, 26, .inr (.inr (.inr (.inr (fun _ => none)))))), (qt, .inr (5, [.ref q7, .int 0, .int 0, .int 0, .int 0, .int 0])), (qp, .inr (7, [.ref q10, .ref q11, .int 0, .int 0])), (rt, .inl (ct, 26, .inl (fun _ => 0))), (ot, .inl (co, 1, .inr (.inl (fun _ => 0))))]) (w1 := [(mo, .inr (8, (((((((((((((((((((((fs.set 49 (.int 0)).set 51 (.int (nI (0 + 1)))).set 51 (.int (nI (0 + 2)))).set 51 (.int (nI (0 + 3)))).set 51 (.int (nI (0 + 4)))).set 51 (.int (nI ((0 + 4) + 1)))).set 51 (.int (nI ((0 + 4) + 2)))).set 51 (.int (nI ((0 + 4) + 3)))).set 51 (.int (nI ((0 + 4) + 4)))).set 51 (.int (nI (((0 + 4) + 4) + 1)))).set 51 (.int (nI (((0 + 4) + 4) + 2)))).set 51 (.int (nI (((0 + 4) + 4) + 3)))).set 51 (.int (nI (((0 + 4) + 4) + 4)))).set 51 (.int (nI ((((0 + 4) + 4) + 4) + 1)))).set 51 (.int (nI ((((0 + 4) + 4) + 4) + 2)))).set 51 (.int (nI ((((0 + 4) + 4) + 4) + 3)))).set 51 (.int (nI ((((0 + 4) + 4) + 4) + 4)))).set 51 (.int (nI (((((0 + 4) + 4) + 4) + 4) + 1)))).set 51 (.int (nI (((((0 + 4) + 4) + 4) + 4) + 2)))).set 51 (.int (nI (((((0 + 4) + 4) + 4) + 4) + 3)))).set 51 (.int (nI (((((0 + 4) + 4) + 4) + 4) + 4))))))]) hP hD [3, 5] [0, 1, 2, 4, 6] rfl rfl (by decide) (by decide) hk1 hFc hP1 hD1
  generalize H1 = H at hP hS ⊢
  have hP : va_P (dC, dI) vwCl [(qm, .inl (cm, 26, .inr (.inr (.inr (.inr (fun _ => none)))))), (qt, .inr (5, [.ref q7, .int 0, .int 0, .int 0, .int 0, .int 0])), (qp, .inr (7, [.ref q10, .ref q11, .int 0, .int 0])), (rt, .inl (ct, 26, .inl (fun _ => 0))), (ot, .inl (co, 1, .inr (.inl (fun _ => 0)))), (mo, .inr (8, (((((((((((((((((((((fs.set 49 (.int 0)).set 51 (.int (nI (0 + 1)))).set 51 (.int (nI (0 + 2)))).set 51 (.int (nI (0 + 3)))).set 51 (.int (nI (0 + 4)))).set 51 (.int (nI ((0 + 4) + 1)))).set 51 (.int (nI ((0 + 4) + 2)))).set 51 (.int (nI ((0 + 4) + 3)))).set 51 (.int (nI ((0 + 4) + 4)))).set 51 (.int (nI (((0 + 4) + 4) + 1)))).set 51 (.int (nI (((0 + 4) + 4) + 2)))).set 51 (.int (nI (((0 + 4) + 4) + 3)))).set 51 (.int (nI (((0 + 4) + 4) + 4)))).set 51 (.int (nI ((((0 + 4) + 4) + 4) + 1)))).set 51 (.int (nI ((((0 + 4) + 4) + 4) + 2)))).set 51 (.int (nI ((((0 + 4) + 4) + 4) + 3)))).set 51 (.int (nI ((((0 + 4) + 4) + 4) + 4)))).set 51 (.int (nI (((((0 + 4) + 4) + 4) + 4) + 1)))).set 51 (.int (nI (((((0 + 4) + 4) + 4) + 4) + 2)))).set 51 (.int (nI (((((0 + 4) + 4) + 4) + 4) + 3)))).set 51 (.int (nI (((((0 + 4) + 4) + 4) + 4) + 4))))))] H := hP
  have hD : va_D (fun q : Nat => s.heap.size ≤ q) [(qm, .inl (cm, 26, .inr (.inr (.inr (.inr (fun _ => none)))))), (qt, .inr (5, [.ref q7, .int 0, .int 0, .int 0, .int 0, .int 0])), (qp, .inr (7, [.ref q10, .ref q11, .int 0, .int 0])), (rt, .inl (ct, 26, .inl (fun _ => 0))), (ot, .inl (co, 1, .inr (.inl (fun _ => 0)))), (mo, .inr (8, (((((((((((((((((((((fs.set 49 (.int 0)).set 51 (.int (nI (0 + 1)))).set 51 (.int (nI (0 + 2)))).set 51 (.int (nI (0 + 3)))).set 51 (.int (nI (0 + 4)))).set 51 (.int (nI ((0 + 4) + 1)))).set 51 (.int (nI ((0 + 4) + 2)))).set 51 (.int (nI ((0 + 4) + 3)))).set 51 (.int (nI ((0 + 4) + 4)))).set 51 (.int (nI (((0 + 4) + 4) + 1)))).set 51 (.int (nI (((0 + 4) + 4) + 2)))).set 51 (.int (nI (((0 + 4) + 4) + 3)))).set 51 (.int (nI (((0 + 4) + 4) + 4)))).set 51 (.int (nI ((((0 + 4) + 4) + 4) + 1)))).set 51 (.int (nI ((((0 + 4) + 4) + 4) + 2)))).set 51 (.int (nI ((((0 + 4) + 4) + 4) + 3)))).set 51 (.int (nI ((((0 + 4) + 4) + 4) + 4)))).set 51 (.int (nI (((((0 + 4) + 4) + 4) + 4) + 1)))).set 51 (.int (nI (((((0 + 4) + 4) + 4) + 4) + 2)))).set 51 (.int (nI (((((0 + 4) + 4) + 4) + 4) + 3)))).set 51 (.int (nI (((((0 + 4) + 4) + 4) + 4) + 4))))))] := hD
  refine lv_aload_n hx hb px_dL_214 rfl (lv_at hl 3 rfl) ?_
  have hPc := hP.sub (ws' := [(mo, .inr (8, (((((((((((((((((((((fs.set 49 (.int 0)).set 51 (.int (nI (0 + 1)))).set 51 (.int (nI (0 + 2)))).set 51 (.int (nI (0 + 3)))).set 51 (.int (nI (0 + 4)))).set 51 (.int (nI ((0 + 4) + 1)))).set 51 (.int (nI ((0 + 4) + 2)))).set 51 (.int (nI ((0 + 4) + 3)))).set 51 (.int (nI ((0 + 4) + 4)))).set 51 (.int (nI (((0 + 4) + 4) + 1)))).set 51 (.int (nI (((0 + 4) + 4) + 2)))).set 51 (.int (nI (((0 + 4) + 4) + 3)))).set 51 (.int (nI (((0 + 4) + 4) + 4)))).set 51 (.int (nI ((((0 + 4) + 4) + 4) + 1)))).set 51 (.int (nI ((((0 + 4) + 4) + 4) + 2)))).set 51 (.int (nI ((((0 + 4) + 4) + 4) + 3)))).set 51 (.int (nI ((((0 + 4) + 4) + 4) + 4)))).set 51 (.int (nI (((((0 + 4) + 4) + 4) + 4) + 1)))).set 51 (.int (nI (((((0 + 4) + 4) + 4) + 4) + 2)))).set 51 (.int (nI (((((0 + 4) + 4) + 4) + 4) + 3)))).set 51 (.int (nI (((((0 + 4) + 4) + 4) + 4) + 4))))))]) [5] rfl
  have hDc := hD.sub (ws' := [(mo, .inr (8, (((((((((((((((((((((fs.set 49 (.int 0)).set 51 (.int (nI (0 + 1)))).set 51 (.int (nI (0 + 2)))).set 51 (.int (nI (0 + 3)))).set 51 (.int (nI (0 + 4)))).set 51 (.int (nI ((0 + 4) + 1)))).set 51 (.int (nI ((0 + 4) + 2)))).set 51 (.int (nI ((0 + 4) + 3)))).set 51 (.int (nI ((0 + 4) + 4)))).set 51 (.int (nI (((0 + 4) + 4) + 1)))).set 51 (.int (nI (((0 + 4) + 4) + 2)))).set 51 (.int (nI (((0 + 4) + 4) + 3)))).set 51 (.int (nI (((0 + 4) + 4) + 4)))).set 51 (.int (nI ((((0 + 4) + 4) + 4) + 1)))).set 51 (.int (nI ((((0 + 4) + 4) + 4) + 2)))).set 51 (.int (nI ((((0 + 4) + 4) + 4) + 3)))).set 51 (.int (nI ((((0 + 4) + 4) + 4) + 4)))).set 51 (.int (nI (((((0 + 4) + 4) + 4) + 4) + 1)))).set 51 (.int (nI (((((0 + 4) + 4) + 4) + 4) + 2)))).set 51 (.int (nI (((((0 + 4) + 4) + 4) + 4) + 3)))).set 51 (.int (nI (((((0 + 4) + 4) + 4) + 4) + 4))))))]) [5] (by decide) rfl
  have hKc := hK.sub (tys' := []) [] rfl
  have hFc := va_free (wc := [(mo, .inr (8, (((((((((((((((((((((fs.set 49 (.int 0)).set 51 (.int (nI (0 + 1)))).set 51 (.int (nI (0 + 2)))).set 51 (.int (nI (0 + 3)))).set 51 (.int (nI (0 + 4)))).set 51 (.int (nI ((0 + 4) + 1)))).set 51 (.int (nI ((0 + 4) + 2)))).set 51 (.int (nI ((0 + 4) + 3)))).set 51 (.int (nI ((0 + 4) + 4)))).set 51 (.int (nI (((0 + 4) + 4) + 1)))).set 51 (.int (nI (((0 + 4) + 4) + 2)))).set 51 (.int (nI (((0 + 4) + 4) + 3)))).set 51 (.int (nI (((0 + 4) + 4) + 4)))).set 51 (.int (nI ((((0 + 4) + 4) + 4) + 1)))).set 51 (.int (nI ((((0 + 4) + 4) + 4) + 2)))).set 51 (.int (nI ((((0 + 4) + 4) + 4) + 3)))).set 51 (.int (nI ((((0 + 4) + 4) + 4) + 4)))).set 51 (.int (nI (((((0 + 4) + 4) + 4) + 4) + 1)))).set 51 (.int (nI (((((0 + 4) + 4) + 4) + 4) + 2)))).set 51 (.int (nI (((((0 + 4) + 4) + 4) + 4) + 3)))).set 51 (.int (nI (((((0 + 4) + 4) + 4) + 4) + 4))))))]) hD hS hA [5] rfl
  refine va_calli (va_runV (As := []) (rest := []) ⟨hx, hb, hml, hown, htw⟩ (px_M_thrown l dC dI H.size mo (((((((((((((((((((((fs.set 49 (.int 0)).set 51 (.int (nI (0 + 1)))).set 51 (.int (nI (0 + 2)))).set 51 (.int (nI (0 + 3)))).set 51 (.int (nI (0 + 4)))).set 51 (.int (nI ((0 + 4) + 1)))).set 51 (.int (nI ((0 + 4) + 2)))).set 51 (.int (nI ((0 + 4) + 3)))).set 51 (.int (nI ((0 + 4) + 4)))).set 51 (.int (nI (((0 + 4) + 4) + 1)))).set 51 (.int (nI (((0 + 4) + 4) + 2)))).set 51 (.int (nI (((0 + 4) + 4) + 3)))).set 51 (.int (nI (((0 + 4) + 4) + 4)))).set 51 (.int (nI ((((0 + 4) + 4) + 4) + 1)))).set 51 (.int (nI ((((0 + 4) + 4) + 4) + 2)))).set 51 (.int (nI ((((0 + 4) + 4) + 4) + 3)))).set 51 (.int (nI ((((0 + 4) + 4) + 4) + 4)))).set 51 (.int (nI (((((0 + 4) + 4) + 4) + 4) + 1)))).set 51 (.int (nI (((((0 + 4) + 4) + 4) + 4) + 2)))).set 51 (.int (nI (((((0 + 4) + 4) + 4) + 4) + 3)))).set 51 (.int (nI (((((0 + 4) + 4) + 4) + 4) + 4)))) (px_sl (px_sl (px_sl (px_sl (px_sl (px_sl (px_sl (px_sl (px_sl (px_sl (px_sl (px_sl (px_sl (px_sl (px_sl (px_sl (px_sl (px_sl (px_sl (px_sl (px_sl hF.1))))))))))))))))))))) ((px_sn (by decide)).trans ((px_sn (by decide)).trans ((px_sn (by decide)).trans ((px_sn (by decide)).trans ((px_sn (by decide)).trans ((px_sn (by decide)).trans ((px_sn (by decide)).trans ((px_sn (by decide)).trans ((px_sn (by decide)).trans ((px_sn (by decide)).trans ((px_sn (by decide)).trans ((px_sn (by decide)).trans ((px_sn (by decide)).trans ((px_sn (by decide)).trans ((px_sn (by decide)).trans ((px_sn (by decide)).trans ((px_sn (by decide)).trans ((px_sn (by decide)).trans ((px_sn (by decide)).trans ((px_sn (by decide)).trans (px_ss hF.1 (by decide))))))))))))))))))))))) (cwV 0 htw (px_gvl (List.mem_append_left _ px_v6) (List.mem_append_right _ px_w408) (List.mem_append_right _ px_w409) (List.mem_append_right _ px_w94) (px_gl px_g44)) rfl rfl rfl (by decide +kernel) ⟨Nat.le_of_ble_eq_true rfl, Nat.le_of_ble_eq_true rfl⟩) ⟨fun a U g mk q => by obtain ⟨q0, q1, qP, qK, qD, qN⟩ := q; exact ⟨q0, q1, qP, va_K.moved (u := U) (U := U.calling g mk a) (Vm.Alike.refl U.vm) qK, qD, qN.same rfl⟩, va_recv hK hP (ci := 8) (q0 := 5) rfl rfl, fun U hU hW => ⟨rfl, by rw [hU], by rw [hU]; exact hPc, va_K.moved hW.alike hKc, hDc.weaken (fun _ _ _ _ => trivial), hN.warm hW⟩⟩ rfl rfl hl.1 rfl (lv_room (Nat.le_of_ble_eq_true rfl)) px_dL_215 ⟨(Nat.le_of_ble_eq_true rfl), (Nat.le_of_ble_eq_true rfl)⟩) hS (fun q _ h => hFc q h) hFc (fun r u t H1 locs ht hvm hw_215 hB hz1 hk1 hS => ?_)
  obtain ⟨hP1, hK1, hD1⟩ := hB
  rw [ht] at hP1
  have hK1 := va_K.moved hvm.symm hK1
  obtain ⟨hP, hD⟩ := va_join (wr := [(qm, .inl (cm, 26, .inr (.inr (.inr (.inr (fun _ => none)))))), (qt, .inr (5, [.ref q7, .int 0, .int 0, .int 0, .int 0, .int 0])), (qp, .inr (7, [.ref q10, .ref q11, .int 0, .int 0])), (rt, .inl (ct, 26, .inl (fun _ => 0))), (ot, .inl (co, 1, .inr (.inl (fun _ => 0))))]) (w1 := [(mo, .inr (8, (((((((((((((((((((((fs.set 49 (.int 0)).set 51 (.int (nI (0 + 1)))).set 51 (.int (nI (0 + 2)))).set 51 (.int (nI (0 + 3)))).set 51 (.int (nI (0 + 4)))).set 51 (.int (nI ((0 + 4) + 1)))).set 51 (.int (nI ((0 + 4) + 2)))).set 51 (.int (nI ((0 + 4) + 3)))).set 51 (.int (nI ((0 + 4) + 4)))).set 51 (.int (nI (((0 + 4) + 4) + 1)))).set 51 (.int (nI (((0 + 4) + 4) + 2)))).set 51 (.int (nI (((0 + 4) + 4) + 3)))).set 51 (.int (nI (((0 + 4) + 4) + 4)))).set 51 (.int (nI ((((0 + 4) + 4) + 4) + 1)))).set 51 (.int (nI ((((0 + 4) + 4) + 4) + 2)))).set 51 (.int (nI ((((0 + 4) + 4) + 4) + 3)))).set 51 (.int (nI ((((0 + 4) + 4) + 4) + 4)))).set 51 (.int (nI (((((0 + 4) + 4) + 4) + 4) + 1)))).set 51 (.int (nI (((((0 + 4) + 4) + 4) + 4) + 2)))).set 51 (.int (nI (((((0 + 4) + 4) + 4) + 4) + 3)))).set 51 (.int (nI (((((0 + 4) + 4) + 4) + 4) + 4))))))]) hP hD [5] [0, 1, 2, 3, 4] rfl rfl (by decide) (by decide) hk1 hFc hP1 hD1
  generalize H1 = H at hP hS ⊢
  have hP : va_P (dC, dI) vwCl [(qm, .inl (cm, 26, .inr (.inr (.inr (.inr (fun _ => none)))))), (qt, .inr (5, [.ref q7, .int 0, .int 0, .int 0, .int 0, .int 0])), (qp, .inr (7, [.ref q10, .ref q11, .int 0, .int 0])), (rt, .inl (ct, 26, .inl (fun _ => 0))), (ot, .inl (co, 1, .inr (.inl (fun _ => 0)))), (mo, .inr (8, (((((((((((((((((((((fs.set 49 (.int 0)).set 51 (.int (nI (0 + 1)))).set 51 (.int (nI (0 + 2)))).set 51 (.int (nI (0 + 3)))).set 51 (.int (nI (0 + 4)))).set 51 (.int (nI ((0 + 4) + 1)))).set 51 (.int (nI ((0 + 4) + 2)))).set 51 (.int (nI ((0 + 4) + 3)))).set 51 (.int (nI ((0 + 4) + 4)))).set 51 (.int (nI (((0 + 4) + 4) + 1)))).set 51 (.int (nI (((0 + 4) + 4) + 2)))).set 51 (.int (nI (((0 + 4) + 4) + 3)))).set 51 (.int (nI (((0 + 4) + 4) + 4)))).set 51 (.int (nI ((((0 + 4) + 4) + 4) + 1)))).set 51 (.int (nI ((((0 + 4) + 4) + 4) + 2)))).set 51 (.int (nI ((((0 + 4) + 4) + 4) + 3)))).set 51 (.int (nI ((((0 + 4) + 4) + 4) + 4)))).set 51 (.int (nI (((((0 + 4) + 4) + 4) + 4) + 1)))).set 51 (.int (nI (((((0 + 4) + 4) + 4) + 4) + 2)))).set 51 (.int (nI (((((0 + 4) + 4) + 4) + 4) + 3)))).set 51 (.int (nI (((((0 + 4) + 4) + 4) + 4) + 4))))))] H := hP
  have hD : va_D (fun q : Nat => s.heap.size ≤ q) [(qm, .inl (cm, 26, .inr (.inr (.inr (.inr (fun _ => none)))))), (qt, .inr (5, [.ref q7, .int 0, .int 0, .int 0, .int 0, .int 0])), (qp, .inr (7, [.ref q10, .ref q11, .int 0, .int 0])), (rt, .inl (ct, 26, .inl (fun _ => 0))), (ot, .inl (co, 1, .inr (.inl (fun _ => 0)))), (mo, .inr (8, (((((((((((((((((((((fs.set 49 (.int 0)).set 51 (.int (nI (0 + 1)))).set 51 (.int (nI (0 + 2)))).set 51 (.int (nI (0 + 3)))).set 51 (.int (nI (0 + 4)))).set 51 (.int (nI ((0 + 4) + 1)))).set 51 (.int (nI ((0 + 4) + 2)))).set 51 (.int (nI ((0 + 4) + 3)))).set 51 (.int (nI ((0 + 4) + 4)))).set 51 (.int (nI (((0 + 4) + 4) + 1)))).set 51 (.int (nI (((0 + 4) + 4) + 2)))).set 51 (.int (nI (((0 + 4) + 4) + 3)))).set 51 (.int (nI (((0 + 4) + 4) + 4)))).set 51 (.int (nI ((((0 + 4) + 4) + 4) + 1)))).set 51 (.int (nI ((((0 + 4) + 4) + 4) + 2)))).set 51 (.int (nI ((((0 + 4) + 4) + 4) + 3)))).set 51 (.int (nI ((((0 + 4) + 4) + 4) + 4)))).set 51 (.int (nI (((((0 + 4) + 4) + 4) + 4) + 1)))).set 51 (.int (nI (((((0 + 4) + 4) + 4) + 4) + 2)))).set 51 (.int (nI (((((0 + 4) + 4) + 4) + 4) + 3)))).set 51 (.int (nI (((((0 + 4) + 4) + 4) + 4) + 4))))))] := hD
  subst hw_215
  refine lv_iload hx hb px_dL_218 (lv_at hl 0 rfl) ?_
  refine lv_icmp_eq (tgt := 225) hx hb px_dL_220 (by decide) (fun _ => ?_) (fun h9 => absurd (by decide +kernel) h9)
  refine lv_goto (tgt := 917) hx hb px_dL_225 (by decide) ?_
  exact px_tail C0 (by decide) (by decide) hS (lv_sub hl [1, 5] rfl)
set_option maxHeartbeats 4000000 in
set_option maxRecDepth 100000 in
/-- case 1z of the law -/
theorem px_case1z {p : Program} {e : Env} {s : State} {m : MethodId} {below : List Frame} {meth : Method} {c : Code} {l : Launch} {b : Nat} {xs : Nat → Int32} (C0 : lw_At p s m meth c b 6 xs) {dC : Nat → ClassId} {dI : Nat → Nat → Nat} {de qb qm qe qo qi qw qt qs qp q7 q10 q11 mo rt rc ot : Nat} {cb cm ct cc co : ClassId} {fs : List Value} {H : Heap} {locs : List Loc} {ls : Array Slot} (hz : xs 1 = 0) (hK : va_K (dC, dI) vwCl [(cb, .byte), (cm, .object "MatroidDesk$Matroid"), (ct, .boolean), (cc, .byte), (co, .long)] s) (hP : va_P (dC, dI) vwCl [(de, .inr (0, [.ref qb, .int 0, .int (-1), .int 0, .int 0, .null, .ref qm, .ref qe, .ref qo, .ref qi, .ref qw, .ref qt, .ref qs, .ref qp])), (qb, .inl (cb, 512, .inl (fun _ => 0))), (qm, .inl (cm, 26, .inr (.inr (.inr (.inr (fun _ => none)))))), (qt, .inr (5, [.ref q7, .int 0, .int 0, .int 0, .int 0, .int 0])), (qp, .inr (7, [.ref q10, .ref q11, .int 0, .int 0])), (mo, .inr (8, fs)), (rt, .inl (ct, 26, .inl (fun _ => 0))), (rc, .inl (cc, 16384, .inl (fun _ => 0))), (ot, .inl (co, 1, .inr (.inl (fun _ => 0))))] H) (hD : va_D (fun q : Nat => s.heap.size ≤ q) [(de, .inr (0, [.ref qb, .int 0, .int (-1), .int 0, .int 0, .null, .ref qm, .ref qe, .ref qo, .ref qi, .ref qw, .ref qt, .ref qs, .ref qp])), (qb, .inl (cb, 512, .inl (fun _ => 0))), (qm, .inl (cm, 26, .inr (.inr (.inr (.inr (fun _ => none)))))), (qt, .inr (5, [.ref q7, .int 0, .int 0, .int 0, .int 0, .int 0])), (qp, .inr (7, [.ref q10, .ref q11, .int 0, .int 0])), (mo, .inr (8, fs)), (rt, .inl (ct, 26, .inl (fun _ => 0))), (rc, .inl (cc, 16384, .inl (fun _ => 0))), (ot, .inl (co, 1, .inr (.inl (fun _ => 0))))]) (hS : va_S (fun q : Nat => s.heap.size ≤ q) s.heap H locs) (hN : px_N s) (hF : px_mdl fs rt rc) (hl : lv_has ls 7 [(4, .int 0), (3, .ref ot), (2, .ref mo), (1, .ref de), (0, .ref b)]) : W p l e room_1 s m #[Value.ref b] below meth c H locs 460 449508 (lw_Z below #[Value.ref b] s) (F0 m 228 ls []) := by
  obtain ⟨hx, hb, hr, hml, hown, hts, hX, hbl, hlocks, hgv⟩ := id C0
  have hown : s.vm.findClass "MatroidDeskLaw" = some m.cls := hown
  have htw : ∀ w ∈ px_tl, w.before _ s = true := fun w h => hts w (px_tl_in w h)
  have hA : ∀ q : Nat, s.heap.size ≤ q → (fun q : Nat => s.heap.size ≤ q) q := fun _ h => h
  have hbA : ¬ (fun q : Nat => s.heap.size ≤ q) b := Nat.not_le.mpr hbl
  refine lv_aload_n hx hb px_dL_228 rfl (lv_at hl 3 rfl) ?_
  refine lv_aload_n hx hb px_dL_229 rfl (lv_at hl 4 rfl) ?_
  refine lv_iload hx hb px_dL_230 (lv_at hl 0 rfl) ?_
  refine lv_iconst (v := 1) hx hb px_dL_232 (by decide) ?_
  refine lv_iadd hx hb px_dL_233 ?_
  refine lv_topi (nm_r (e' := (1 : Int32)) (by decide +kernel) ?_)
  refine va_sld hx hb hX hbl hbA hS (show vp_in (nI 1) 6 from vp_in_nI (by decide) (by decide)) px_dL_234 ?_
  refine lv_topi (nm_r (e' := 0) ((congrArg xs (show _ = 1 by decide +kernel)).trans hz) ?_)
  refine lv_aload_n hx hb px_dL_235 rfl (lv_at hl 1 rfl) ?_
  have hPc := hP.sub (ws' := [(de, .inr (0, [.ref qb, .int 0, .int (-1), .int 0, .int 0, .null, .ref qm, .ref qe, .ref qo, .ref qi, .ref qw, .ref qt, .ref qs, .ref qp])), (ot, .inl (co, 1, .inr (.inl (fun _ => 0))))]) [0, 8] rfl
  have hDc := hD.sub (ws' := [(de, .inr (0, [.ref qb, .int 0, .int (-1), .int 0, .int 0, .null, .ref qm, .ref qe, .ref qo, .ref qi, .ref qw, .ref qt, .ref qs, .ref qp])), (ot, .inl (co, 1, .inr (.inl (fun _ => 0))))]) [0, 8] (by decide) rfl
  have hKc := hK.sub (tys' := [(co, .long)]) [4] rfl
  have hFc := va_free (wc := [(de, .inr (0, [.ref qb, .int 0, .int (-1), .int 0, .int 0, .null, .ref qm, .ref qe, .ref qo, .ref qi, .ref qw, .ref qt, .ref qs, .ref qp])), (ot, .inl (co, 1, .inr (.inl (fun _ => 0))))]) hD hS hA [0, 8] rfl
  refine va_calli (px_runSW (As := [.ref de, .int 0, .ref ot]) (rest := []) (hs := [(0, 9, 12, 19)]) (bytes := method_4_code) (maxL := 4) (ret := (some .int)) (n := 3) ⟨hx, hb, hml, hown, htw⟩ (px_L_end0 l dC dI H.size de qb qm qe qo qi qw qt qs qp ot co) rfl rfl ⟨Nat.le_of_ble_eq_true rfl, Nat.le_of_ble_eq_true rfl⟩ (pay_in htw px_g70) List.mem_cons_self (htw _ (List.mem_append_right _ px_w154)) (htw _ (List.mem_append_right _ px_w498)) (htw _ (List.mem_append_left _ px_v7)) ⟨by decide, by decide⟩ (by decide +kernel) ⟨fun a U g mk q => by obtain ⟨q0, q1, qP, qK, qD, qN⟩ := q; exact ⟨q0, q1, qP, va_K.moved (u := U) (U := U.calling g mk a) (Vm.Alike.refl U.vm) qK, qD, qN.same rfl⟩, fun U hU hW => ⟨rfl, by rw [hU], by rw [hU]; exact hPc, va_K.moved hW.alike hKc, hDc.weaken (fun _ _ _ _ => trivial), hN.warm hW⟩⟩ rfl rfl hl.1 rfl (lv_room (Nat.le_of_ble_eq_true rfl)) px_dL_236 ⟨(Nat.le_of_ble_eq_true rfl), (Nat.le_of_ble_eq_true rfl)⟩) hS (fun q _ h => hFc q h) hFc (fun r u t H1 locs ht hvm hw_236 hB hz1 hk1 hS => ?_)
  obtain ⟨hP1, hK1, hD1⟩ := hB
  rw [ht] at hP1
  have hK1 := va_K.moved hvm.symm hK1
  obtain ⟨hP, hD⟩ := va_join (wr := [(qb, .inl (cb, 512, .inl (fun _ => 0))), (qm, .inl (cm, 26, .inr (.inr (.inr (.inr (fun _ => none)))))), (qt, .inr (5, [.ref q7, .int 0, .int 0, .int 0, .int 0, .int 0])), (qp, .inr (7, [.ref q10, .ref q11, .int 0, .int 0])), (mo, .inr (8, fs)), (rt, .inl (ct, 26, .inl (fun _ => 0))), (rc, .inl (cc, 16384, .inl (fun _ => 0)))]) (w1 := [(ot, .inl (co, 1, .inr (.inl (vp_updL (fun _ => 0) (Int32.toNatClampNeg 0) 0))))]) hP hD [0, 8] [1, 2, 3, 4, 5, 6, 7] rfl rfl (by decide) (by decide) hk1 hFc hP1 hD1
  generalize H1 = H at hP hS ⊢
  have hP : va_P (dC, dI) vwCl [(qb, .inl (cb, 512, .inl (fun _ => 0))), (qm, .inl (cm, 26, .inr (.inr (.inr (.inr (fun _ => none)))))), (qt, .inr (5, [.ref q7, .int 0, .int 0, .int 0, .int 0, .int 0])), (qp, .inr (7, [.ref q10, .ref q11, .int 0, .int 0])), (mo, .inr (8, fs)), (rt, .inl (ct, 26, .inl (fun _ => 0))), (rc, .inl (cc, 16384, .inl (fun _ => 0))), (ot, .inl (co, 1, .inr (.inl (vp_updL (fun _ => 0) (Int32.toNatClampNeg 0) 0))))] H := hP
  have hD : va_D (fun q : Nat => s.heap.size ≤ q) [(qb, .inl (cb, 512, .inl (fun _ => 0))), (qm, .inl (cm, 26, .inr (.inr (.inr (.inr (fun _ => none)))))), (qt, .inr (5, [.ref q7, .int 0, .int 0, .int 0, .int 0, .int 0])), (qp, .inr (7, [.ref q10, .ref q11, .int 0, .int 0])), (mo, .inr (8, fs)), (rt, .inl (ct, 26, .inl (fun _ => 0))), (rc, .inl (cc, 16384, .inl (fun _ => 0))), (ot, .inl (co, 1, .inr (.inl (vp_updL (fun _ => 0) (Int32.toNatClampNeg 0) 0))))] := hD
  subst hw_236
  refine lv_istore (lv' := [(5, .int 0), (4, .int 0), (3, .ref ot), (2, .ref mo), (1, .ref de), (0, .ref b)]) hx hb px_dL_239 hl (by decide) rfl (fun ls hl => ?_)
  refine lv_aload_n hx hb px_dL_241 rfl (lv_at hl 3 rfl) ?_
  refine lv_aload_n hx hb px_dL_242 rfl (lv_at hl 5 rfl) ?_
  refine lv_iload hx hb px_dL_243 (lv_at hl 1 rfl) ?_
  refine lv_iconst (v := 1) hx hb px_dL_245 (by decide) ?_
  refine lv_iadd hx hb px_dL_246 ?_
  refine lv_topi (nm_r (e' := (1 : Int32)) (by decide +kernel) ?_)
  refine va_sld hx hb hX hbl hbA hS (show vp_in (nI 1) 6 from vp_in_nI (by decide) (by decide)) px_dL_247 ?_
  refine lv_topi (nm_r (e' := 0) ((congrArg xs (show _ = 1 by decide +kernel)).trans hz) ?_)
  have hPc := hP.sub (ws' := [(mo, .inr (8, fs))]) [4] rfl
  have hDc := hD.sub (ws' := [(mo, .inr (8, fs))]) [4] (by decide) rfl
  have hKc := hK.sub (tys' := []) [] rfl
  have hFc := va_free (wc := [(mo, .inr (8, fs))]) hD hS hA [4] rfl
  refine va_calli (va_runV (As := [.int 0]) (rest := []) ⟨hx, hb, hml, hown, htw⟩ (px_M_end0 l dC dI H.size mo fs hF.1 hF.2.2.2.1) (cwV 1 htw (px_gvl (List.mem_append_left _ px_v8) (List.mem_append_right _ px_w405) (List.mem_append_right _ px_w406) (List.mem_append_right _ px_w94) (px_gl px_g43)) rfl rfl rfl (by decide +kernel) ⟨Nat.le_of_ble_eq_true rfl, Nat.le_of_ble_eq_true rfl⟩) ⟨fun a U g mk q => by obtain ⟨q0, q1, qP, qK, qD, qN⟩ := q; exact ⟨q0, q1, qP, va_K.moved (u := U) (U := U.calling g mk a) (Vm.Alike.refl U.vm) qK, qD, qN.same rfl⟩, va_recv hK hP (ci := 8) (q0 := 4) rfl rfl, fun U hU hW => ⟨rfl, by rw [hU], by rw [hU]; exact hPc, va_K.moved hW.alike hKc, hDc.weaken (fun _ _ _ _ => trivial), hN.warm hW⟩⟩ rfl rfl hl.1 rfl (lv_room (Nat.le_of_ble_eq_true rfl)) px_dL_248 ⟨(Nat.le_of_ble_eq_true rfl), (Nat.le_of_ble_eq_true rfl)⟩) hS (fun q _ h => hFc q h) hFc (fun r u t H1 locs ht hvm hw_248 hB hz1 hk1 hS => ?_)
  obtain ⟨hP1, hK1, hD1⟩ := hB
  rw [ht] at hP1
  have hK1 := va_K.moved hvm.symm hK1
  obtain ⟨hP, hD⟩ := va_join (wr := [(qb, .inl (cb, 512, .inl (fun _ => 0))), (qm, .inl (cm, 26, .inr (.inr (.inr (.inr (fun _ => none)))))), (qt, .inr (5, [.ref q7, .int 0, .int 0, .int 0, .int 0, .int 0])), (qp, .inr (7, [.ref q10, .ref q11, .int 0, .int 0])), (rt, .inl (ct, 26, .inl (fun _ => 0))), (rc, .inl (cc, 16384, .inl (fun _ => 0))), (ot, .inl (co, 1, .inr (.inl (vp_updL (fun _ => 0) (Int32.toNatClampNeg 0) 0))))]) (w1 := [(mo, .inr (8, ((fs.set 49 (.int 0)).set 51 (.int 0))))]) hP hD [4] [0, 1, 2, 3, 5, 6, 7] rfl rfl (by decide) (by decide) hk1 hFc hP1 hD1
  generalize H1 = H at hP hS ⊢
  have hP : va_P (dC, dI) vwCl [(qb, .inl (cb, 512, .inl (fun _ => 0))), (qm, .inl (cm, 26, .inr (.inr (.inr (.inr (fun _ => none)))))), (qt, .inr (5, [.ref q7, .int 0, .int 0, .int 0, .int 0, .int 0])), (qp, .inr (7, [.ref q10, .ref q11, .int 0, .int 0])), (rt, .inl (ct, 26, .inl (fun _ => 0))), (rc, .inl (cc, 16384, .inl (fun _ => 0))), (ot, .inl (co, 1, .inr (.inl (vp_updL (fun _ => 0) (Int32.toNatClampNeg 0) 0)))), (mo, .inr (8, ((fs.set 49 (.int 0)).set 51 (.int 0))))] H := hP
  have hD : va_D (fun q : Nat => s.heap.size ≤ q) [(qb, .inl (cb, 512, .inl (fun _ => 0))), (qm, .inl (cm, 26, .inr (.inr (.inr (.inr (fun _ => none)))))), (qt, .inr (5, [.ref q7, .int 0, .int 0, .int 0, .int 0, .int 0])), (qp, .inr (7, [.ref q10, .ref q11, .int 0, .int 0])), (rt, .inl (ct, 26, .inl (fun _ => 0))), (rc, .inl (cc, 16384, .inl (fun _ => 0))), (ot, .inl (co, 1, .inr (.inl (vp_updL (fun _ => 0) (Int32.toNatClampNeg 0) 0)))), (mo, .inr (8, ((fs.set 49 (.int 0)).set 51 (.int 0))))] := hD
  subst hw_248
  refine lv_istore (lv' := [(6, .int 0), (5, .int 0), (4, .int 0), (3, .ref ot), (2, .ref mo), (1, .ref de), (0, .ref b)]) hx hb px_dL_251 hl (by decide) rfl (fun ls hl => ?_)
  refine lv_aload_n hx hb px_dL_253 rfl (lv_at hl 4 rfl) ?_
  have hPc := hP.sub (ws' := [(mo, .inr (8, ((fs.set 49 (.int 0)).set 51 (.int 0))))]) [7] rfl
  have hDc := hD.sub (ws' := [(mo, .inr (8, ((fs.set 49 (.int 0)).set 51 (.int 0))))]) [7] (by decide) rfl
  have hKc := hK.sub (tys' := []) [] rfl
  have hFc := va_free (wc := [(mo, .inr (8, ((fs.set 49 (.int 0)).set 51 (.int 0))))]) hD hS hA [7] rfl
  refine va_calli (va_runV (As := []) (rest := []) ⟨hx, hb, hml, hown, htw⟩ (px_M_thrown l dC dI H.size mo ((fs.set 49 (.int 0)).set 51 (.int 0)) (px_sl (px_sl hF.1)) ((px_sn (by decide)).trans (px_ss hF.1 (by decide)))) (cwV 0 htw (px_gvl (List.mem_append_left _ px_v6) (List.mem_append_right _ px_w408) (List.mem_append_right _ px_w409) (List.mem_append_right _ px_w94) (px_gl px_g44)) rfl rfl rfl (by decide +kernel) ⟨Nat.le_of_ble_eq_true rfl, Nat.le_of_ble_eq_true rfl⟩) ⟨fun a U g mk q => by obtain ⟨q0, q1, qP, qK, qD, qN⟩ := q; exact ⟨q0, q1, qP, va_K.moved (u := U) (U := U.calling g mk a) (Vm.Alike.refl U.vm) qK, qD, qN.same rfl⟩, va_recv hK hP (ci := 8) (q0 := 7) rfl rfl, fun U hU hW => ⟨rfl, by rw [hU], by rw [hU]; exact hPc, va_K.moved hW.alike hKc, hDc.weaken (fun _ _ _ _ => trivial), hN.warm hW⟩⟩ rfl rfl hl.1 rfl (lv_room (Nat.le_of_ble_eq_true rfl)) px_dL_254 ⟨(Nat.le_of_ble_eq_true rfl), (Nat.le_of_ble_eq_true rfl)⟩) hS (fun q _ h => hFc q h) hFc (fun r u t H1 locs ht hvm hw_254 hB hz1 hk1 hS => ?_)
  obtain ⟨hP1, hK1, hD1⟩ := hB
  rw [ht] at hP1
  have hK1 := va_K.moved hvm.symm hK1
  obtain ⟨hP, hD⟩ := va_join (wr := [(qb, .inl (cb, 512, .inl (fun _ => 0))), (qm, .inl (cm, 26, .inr (.inr (.inr (.inr (fun _ => none)))))), (qt, .inr (5, [.ref q7, .int 0, .int 0, .int 0, .int 0, .int 0])), (qp, .inr (7, [.ref q10, .ref q11, .int 0, .int 0])), (rt, .inl (ct, 26, .inl (fun _ => 0))), (rc, .inl (cc, 16384, .inl (fun _ => 0))), (ot, .inl (co, 1, .inr (.inl (vp_updL (fun _ => 0) (Int32.toNatClampNeg 0) 0))))]) (w1 := [(mo, .inr (8, ((fs.set 49 (.int 0)).set 51 (.int 0))))]) hP hD [7] [0, 1, 2, 3, 4, 5, 6] rfl rfl (by decide) (by decide) hk1 hFc hP1 hD1
  generalize H1 = H at hP hS ⊢
  have hP : va_P (dC, dI) vwCl [(qb, .inl (cb, 512, .inl (fun _ => 0))), (qm, .inl (cm, 26, .inr (.inr (.inr (.inr (fun _ => none)))))), (qt, .inr (5, [.ref q7, .int 0, .int 0, .int 0, .int 0, .int 0])), (qp, .inr (7, [.ref q10, .ref q11, .int 0, .int 0])), (rt, .inl (ct, 26, .inl (fun _ => 0))), (rc, .inl (cc, 16384, .inl (fun _ => 0))), (ot, .inl (co, 1, .inr (.inl (vp_updL (fun _ => 0) (Int32.toNatClampNeg 0) 0)))), (mo, .inr (8, ((fs.set 49 (.int 0)).set 51 (.int 0))))] H := hP
  have hD : va_D (fun q : Nat => s.heap.size ≤ q) [(qb, .inl (cb, 512, .inl (fun _ => 0))), (qm, .inl (cm, 26, .inr (.inr (.inr (.inr (fun _ => none)))))), (qt, .inr (5, [.ref q7, .int 0, .int 0, .int 0, .int 0, .int 0])), (qp, .inr (7, [.ref q10, .ref q11, .int 0, .int 0])), (rt, .inl (ct, 26, .inl (fun _ => 0))), (rc, .inl (cc, 16384, .inl (fun _ => 0))), (ot, .inl (co, 1, .inr (.inl (vp_updL (fun _ => 0) (Int32.toNatClampNeg 0) 0)))), (mo, .inr (8, ((fs.set 49 (.int 0)).set 51 (.int 0))))] := hD
  subst hw_254
  refine lv_iload hx hb px_dL_257 (lv_at hl 1 rfl) ?_
  refine lv_icmp_eq (tgt := 264) hx hb px_dL_259 (by decide) (fun _ => ?_) (fun h9 => absurd (by decide +kernel) h9)
  refine lv_iload hx hb px_dL_264 (lv_at hl 1 rfl) ?_
  refine lv_if_ne (tgt := 281) hx hb px_dL_266 (by decide) (fun h9 => absurd (by decide +kernel) h9) (fun _ => ?_)
  refine lv_aload_n hx hb px_dL_269 rfl (lv_at hl 3 rfl) ?_
  refine lv_iconst (v := 0) hx hb px_dL_270 (by decide) ?_
  refine va_lald hx hb hK hP 6 4 rfl rfl (show vp_in (nI 0) 1 from vp_in_nI (by decide) (by decide)) px_dL_271 ?_
  refine lv_topl (nm_r (e' := 0) (by decide +kernel) ?_)
  refine lv_iload hx hb px_dL_272 (lv_at hl 0 rfl) ?_
  refine lv_i2l (v := 0) hx hb px_dL_274 (by decide +kernel) ?_
  refine W.lcmp hx hb px_dL_275 ?_
  refine lv_topi (nm_r (e' := (0 : Int32)) (by decide +kernel) ?_)
  refine lv_if_eq (tgt := 281) hx hb px_dL_276 (by decide) (fun _ => ?_) (fun h9 => absurd (by decide +kernel) h9)
  refine lv_goto (tgt := 917) hx hb px_dL_281 (by decide) ?_
  exact px_tail C0 (by decide) (by decide) hS (lv_sub hl [2, 6] rfl)
set_option maxHeartbeats 4000000 in
set_option maxRecDepth 100000 in
/-- case 1n of the law -/
theorem px_case1n {p : Program} {e : Env} {s : State} {m : MethodId} {below : List Frame} {meth : Method} {c : Code} {l : Launch} {b : Nat} {xs : Nat → Int32} (C0 : lw_At p s m meth c b 6 xs) {dC : Nat → ClassId} {dI : Nat → Nat → Nat} {de qb qm qe qo qi qw qt qs qp q7 q10 q11 mo rt rc ot : Nat} {cb cm ct cc co : ClassId} {fs : List Value} {H : Heap} {locs : List Loc} {ls : Array Slot} {tq : Nat} (htr : l.stackTraces = false) (hz : ¬ xs 1 = 0) (hX9 : px_X s) (hH9 : px_H s) (hZ9 : vk_R "MatroidDesk" 105 "not so many bytes came in" tq s) (hK : va_K (dC, dI) vwCl [(cb, .byte), (cm, .object "MatroidDesk$Matroid"), (ct, .boolean), (cc, .byte), (co, .long)] s) (hP : va_P (dC, dI) vwCl [(de, .inr (0, [.ref qb, .int 0, .int (-1), .int 0, .int 0, .null, .ref qm, .ref qe, .ref qo, .ref qi, .ref qw, .ref qt, .ref qs, .ref qp])), (qb, .inl (cb, 512, .inl (fun _ => 0))), (qm, .inl (cm, 26, .inr (.inr (.inr (.inr (fun _ => none)))))), (qt, .inr (5, [.ref q7, .int 0, .int 0, .int 0, .int 0, .int 0])), (qp, .inr (7, [.ref q10, .ref q11, .int 0, .int 0])), (mo, .inr (8, fs)), (rt, .inl (ct, 26, .inl (fun _ => 0))), (rc, .inl (cc, 16384, .inl (fun _ => 0))), (ot, .inl (co, 1, .inr (.inl (fun _ => 0))))] H) (hD : va_D (fun q : Nat => s.heap.size ≤ q) [(de, .inr (0, [.ref qb, .int 0, .int (-1), .int 0, .int 0, .null, .ref qm, .ref qe, .ref qo, .ref qi, .ref qw, .ref qt, .ref qs, .ref qp])), (qb, .inl (cb, 512, .inl (fun _ => 0))), (qm, .inl (cm, 26, .inr (.inr (.inr (.inr (fun _ => none)))))), (qt, .inr (5, [.ref q7, .int 0, .int 0, .int 0, .int 0, .int 0])), (qp, .inr (7, [.ref q10, .ref q11, .int 0, .int 0])), (mo, .inr (8, fs)), (rt, .inl (ct, 26, .inl (fun _ => 0))), (rc, .inl (cc, 16384, .inl (fun _ => 0))), (ot, .inl (co, 1, .inr (.inl (fun _ => 0))))]) (hS : va_S (fun q : Nat => s.heap.size ≤ q) s.heap H locs) (hN : px_N s) (hF : px_mdl fs rt rc) (hl : lv_has ls 7 [(4, .int 0), (3, .ref ot), (2, .ref mo), (1, .ref de), (0, .ref b)]) : W p l e room_1 s m #[Value.ref b] below meth c H locs 460 449508 (lw_Z below #[Value.ref b] s) (F0 m 228 ls []) := by
  obtain ⟨hx, hb, hr, hml, hown, hts, hX, hbl, hlocks, hgv⟩ := id C0
  have hown : s.vm.findClass "MatroidDeskLaw" = some m.cls := hown
  have htw : ∀ w ∈ px_tl, w.before _ s = true := fun w h => hts w (px_tl_in w h)
  have hA : ∀ q : Nat, s.heap.size ≤ q → (fun q : Nat => s.heap.size ≤ q) q := fun _ h => h
  have hbA : ¬ (fun q : Nat => s.heap.size ≤ q) b := Nat.not_le.mpr hbl
  refine lv_aload_n hx hb px_dL_228 rfl (lv_at hl 3 rfl) ?_
  refine lv_aload_n hx hb px_dL_229 rfl (lv_at hl 4 rfl) ?_
  refine lv_iload hx hb px_dL_230 (lv_at hl 0 rfl) ?_
  refine lv_iconst (v := 1) hx hb px_dL_232 (by decide) ?_
  refine lv_iadd hx hb px_dL_233 ?_
  refine lv_topi (nm_r (e' := (1 : Int32)) (by decide +kernel) ?_)
  refine va_sld hx hb hX hbl hbA hS (show vp_in (nI 1) 6 from vp_in_nI (by decide) (by decide)) px_dL_234 ?_
  refine lv_topi (nm_r (e' := xs 1) (congrArg xs (by decide +kernel)) ?_)
  refine lv_aload_n hx hb px_dL_235 rfl (lv_at hl 1 rfl) ?_
  have hPc := hP.sub (ws' := [(de, .inr (0, [.ref qb, .int 0, .int (-1), .int 0, .int 0, .null, .ref qm, .ref qe, .ref qo, .ref qi, .ref qw, .ref qt, .ref qs, .ref qp]))]) [0] rfl
  have hDc := hD.sub (ws' := [(de, .inr (0, [.ref qb, .int 0, .int (-1), .int 0, .int 0, .null, .ref qm, .ref qe, .ref qo, .ref qi, .ref qw, .ref qt, .ref qs, .ref qp]))]) [0] (by decide) rfl
  have hKc := hK.sub (tys' := []) [] rfl
  have hFc := va_free (wc := [(de, .inr (0, [.ref qb, .int 0, .int (-1), .int 0, .int 0, .null, .ref qm, .ref qe, .ref qo, .ref qi, .ref qw, .ref qt, .ref qs, .ref qp]))]) hD hS hA [0] rfl
  refine va_calli (px_runSW (As := [.ref de, .int (xs 1), .ref ot]) (rest := []) (hs := [(0, 9, 12, 19)]) (bytes := method_4_code) (maxL := 4) (ret := (some .int)) (n := 3) ⟨hx, hb, hml, hown, htw⟩ (px_L_endT l htr dC dI H.size de qb qm qe qo qi qw qt qs qp tq ot (xs 1) hz) rfl rfl ⟨Nat.le_of_ble_eq_true rfl, Nat.le_of_ble_eq_true rfl⟩ (pay_in htw px_gLE) List.mem_cons_self (htw _ (List.mem_append_right _ px_w154)) (htw _ (List.mem_append_right _ px_w498)) (htw _ (List.mem_append_left _ px_v7)) ⟨by decide, by decide⟩ (by decide +kernel) ⟨fun a U g mk q => by obtain ⟨q0, q1, qP, qK, qD, qN, qE0, qE1, qE2⟩ := q; exact ⟨q0, q1, qP, va_K.moved (u := U) (U := U.calling g mk a) (Vm.Alike.refl U.vm) qK, qD, qN.same rfl, qE0.same rfl, qE1.go (Vm.Alike.refl U.vm) (fun _ _ => rfl), vk_R.same rfl qE2⟩, fun U hU hW => ⟨rfl, by rw [hU], by rw [hU]; exact hPc, va_K.moved hW.alike hKc, hDc.weaken (fun _ _ _ _ => trivial), hN.warm hW, hX9.warm hW, hH9.go hW.alike (fun q hq => by rw [hU]; exact hS.2.1 q hq (Nat.not_le.mpr hq)), vk_R.warm hW hZ9⟩⟩ rfl rfl hl.1 rfl (lv_room (Nat.le_of_ble_eq_true rfl)) px_dL_236 ⟨(Nat.le_of_ble_eq_true rfl), (Nat.le_of_ble_eq_true rfl)⟩) hS (fun q _ h => hFc q h) hFc (fun r u t H1 locs ht hvm hw_236 hB hz1 hk1 hS => ?_)
  obtain ⟨hP1, hK1, hD1⟩ := hB
  rw [ht] at hP1
  have hK1 := va_K.moved hvm.symm hK1
  obtain ⟨hP, hD⟩ := va_join (wr := [(qb, .inl (cb, 512, .inl (fun _ => 0))), (qm, .inl (cm, 26, .inr (.inr (.inr (.inr (fun _ => none)))))), (qt, .inr (5, [.ref q7, .int 0, .int 0, .int 0, .int 0, .int 0])), (qp, .inr (7, [.ref q10, .ref q11, .int 0, .int 0])), (mo, .inr (8, fs)), (rt, .inl (ct, 26, .inl (fun _ => 0))), (rc, .inl (cc, 16384, .inl (fun _ => 0))), (ot, .inl (co, 1, .inr (.inl (fun _ => 0))))]) (w1 := []) hP hD [0] [1, 2, 3, 4, 5, 6, 7, 8] rfl rfl (by decide) (by decide) hk1 hFc hP1 hD1
  generalize H1 = H at hP hS ⊢
  have hP : va_P (dC, dI) vwCl [(qb, .inl (cb, 512, .inl (fun _ => 0))), (qm, .inl (cm, 26, .inr (.inr (.inr (.inr (fun _ => none)))))), (qt, .inr (5, [.ref q7, .int 0, .int 0, .int 0, .int 0, .int 0])), (qp, .inr (7, [.ref q10, .ref q11, .int 0, .int 0])), (mo, .inr (8, fs)), (rt, .inl (ct, 26, .inl (fun _ => 0))), (rc, .inl (cc, 16384, .inl (fun _ => 0))), (ot, .inl (co, 1, .inr (.inl (fun _ => 0))))] H := hP
  have hD : va_D (fun q : Nat => s.heap.size ≤ q) [(qb, .inl (cb, 512, .inl (fun _ => 0))), (qm, .inl (cm, 26, .inr (.inr (.inr (.inr (fun _ => none)))))), (qt, .inr (5, [.ref q7, .int 0, .int 0, .int 0, .int 0, .int 0])), (qp, .inr (7, [.ref q10, .ref q11, .int 0, .int 0])), (mo, .inr (8, fs)), (rt, .inl (ct, 26, .inl (fun _ => 0))), (rc, .inl (cc, 16384, .inl (fun _ => 0))), (ot, .inl (co, 1, .inr (.inl (fun _ => 0))))] := hD
  refine W.widen (k := 461) (n := 449514) (Nat.le_of_ble_eq_true rfl) (Nat.le_of_ble_eq_true rfl) ?_
  subst hw_236
  refine lv_istore (lv' := [(5, .int 1), (4, .int 0), (3, .ref ot), (2, .ref mo), (1, .ref de), (0, .ref b)]) hx hb px_dL_239 hl (by decide) rfl (fun ls hl => ?_)
  refine lv_aload_n hx hb px_dL_241 rfl (lv_at hl 3 rfl) ?_
  refine lv_aload_n hx hb px_dL_242 rfl (lv_at hl 5 rfl) ?_
  refine lv_iload hx hb px_dL_243 (lv_at hl 1 rfl) ?_
  refine lv_iconst (v := 1) hx hb px_dL_245 (by decide) ?_
  refine lv_iadd hx hb px_dL_246 ?_
  refine lv_topi (nm_r (e' := (1 : Int32)) (by decide +kernel) ?_)
  refine va_sld hx hb hX hbl hbA hS (show vp_in (nI 1) 6 from vp_in_nI (by decide) (by decide)) px_dL_247 ?_
  refine lv_topi (nm_r (e' := xs 1) (congrArg xs (by decide +kernel)) ?_)
  have hPc := hP.sub (ws' := [(mo, .inr (8, fs))]) [4] rfl
  have hDc := hD.sub (ws' := [(mo, .inr (8, fs))]) [4] (by decide) rfl
  have hKc := hK.sub (tys' := []) [] rfl
  have hFc := va_free (wc := [(mo, .inr (8, fs))]) hD hS hA [4] rfl
  refine va_calli (va_runV (As := [.int (xs 1)]) (rest := []) ⟨hx, hb, hml, hown, htw⟩ (px_M_end1 l dC dI H.size mo fs (xs 1) hF.1 hF.2.2.2.1 hz) (cwV 1 htw (px_gvl (List.mem_append_left _ px_v8) (List.mem_append_right _ px_w405) (List.mem_append_right _ px_w406) (List.mem_append_right _ px_w94) (px_gl px_g43)) rfl rfl rfl (by decide +kernel) ⟨Nat.le_of_ble_eq_true rfl, Nat.le_of_ble_eq_true rfl⟩) ⟨fun a U g mk q => by obtain ⟨q0, q1, qP, qK, qD, qN⟩ := q; exact ⟨q0, q1, qP, va_K.moved (u := U) (U := U.calling g mk a) (Vm.Alike.refl U.vm) qK, qD, qN.same rfl⟩, va_recv hK hP (ci := 8) (q0 := 4) rfl rfl, fun U hU hW => ⟨rfl, by rw [hU], by rw [hU]; exact hPc, va_K.moved hW.alike hKc, hDc.weaken (fun _ _ _ _ => trivial), hN.warm hW⟩⟩ rfl rfl hl.1 rfl (lv_room (Nat.le_of_ble_eq_true rfl)) px_dL_248 ⟨(Nat.le_of_ble_eq_true rfl), (Nat.le_of_ble_eq_true rfl)⟩) hS (fun q _ h => hFc q h) hFc (fun r u t H1 locs ht hvm hw_248 hB hz1 hk1 hS => ?_)
  obtain ⟨hP1, hK1, hD1⟩ := hB
  rw [ht] at hP1
  have hK1 := va_K.moved hvm.symm hK1
  obtain ⟨hP, hD⟩ := va_join (wr := [(qb, .inl (cb, 512, .inl (fun _ => 0))), (qm, .inl (cm, 26, .inr (.inr (.inr (.inr (fun _ => none)))))), (qt, .inr (5, [.ref q7, .int 0, .int 0, .int 0, .int 0, .int 0])), (qp, .inr (7, [.ref q10, .ref q11, .int 0, .int 0])), (rt, .inl (ct, 26, .inl (fun _ => 0))), (rc, .inl (cc, 16384, .inl (fun _ => 0))), (ot, .inl (co, 1, .inr (.inl (fun _ => 0))))]) (w1 := [(mo, .inr (8, (fs.set 49 (.int 1))))]) hP hD [4] [0, 1, 2, 3, 5, 6, 7] rfl rfl (by decide) (by decide) hk1 hFc hP1 hD1
  generalize H1 = H at hP hS ⊢
  have hP : va_P (dC, dI) vwCl [(qb, .inl (cb, 512, .inl (fun _ => 0))), (qm, .inl (cm, 26, .inr (.inr (.inr (.inr (fun _ => none)))))), (qt, .inr (5, [.ref q7, .int 0, .int 0, .int 0, .int 0, .int 0])), (qp, .inr (7, [.ref q10, .ref q11, .int 0, .int 0])), (rt, .inl (ct, 26, .inl (fun _ => 0))), (rc, .inl (cc, 16384, .inl (fun _ => 0))), (ot, .inl (co, 1, .inr (.inl (fun _ => 0)))), (mo, .inr (8, (fs.set 49 (.int 1))))] H := hP
  have hD : va_D (fun q : Nat => s.heap.size ≤ q) [(qb, .inl (cb, 512, .inl (fun _ => 0))), (qm, .inl (cm, 26, .inr (.inr (.inr (.inr (fun _ => none)))))), (qt, .inr (5, [.ref q7, .int 0, .int 0, .int 0, .int 0, .int 0])), (qp, .inr (7, [.ref q10, .ref q11, .int 0, .int 0])), (rt, .inl (ct, 26, .inl (fun _ => 0))), (rc, .inl (cc, 16384, .inl (fun _ => 0))), (ot, .inl (co, 1, .inr (.inl (fun _ => 0)))), (mo, .inr (8, (fs.set 49 (.int 1))))] := hD
  subst hw_248
  refine lv_istore (lv' := [(6, .int 0), (5, .int 1), (4, .int 0), (3, .ref ot), (2, .ref mo), (1, .ref de), (0, .ref b)]) hx hb px_dL_251 hl (by decide) rfl (fun ls hl => ?_)
  refine lv_aload_n hx hb px_dL_253 rfl (lv_at hl 4 rfl) ?_
  have hPc := hP.sub (ws' := [(mo, .inr (8, (fs.set 49 (.int 1))))]) [7] rfl
  have hDc := hD.sub (ws' := [(mo, .inr (8, (fs.set 49 (.int 1))))]) [7] (by decide) rfl
  have hKc := hK.sub (tys' := []) [] rfl
  have hFc := va_free (wc := [(mo, .inr (8, (fs.set 49 (.int 1))))]) hD hS hA [7] rfl
  refine va_calli (va_runV (As := []) (rest := []) ⟨hx, hb, hml, hown, htw⟩ (px_M_thrown1 l dC dI H.size mo (fs.set 49 (.int 1)) (px_sl hF.1) (px_ss hF.1 (by decide))) (cwV 0 htw (px_gvl (List.mem_append_left _ px_v6) (List.mem_append_right _ px_w408) (List.mem_append_right _ px_w409) (List.mem_append_right _ px_w94) (px_gl px_g44)) rfl rfl rfl (by decide +kernel) ⟨Nat.le_of_ble_eq_true rfl, Nat.le_of_ble_eq_true rfl⟩) ⟨fun a U g mk q => by obtain ⟨q0, q1, qP, qK, qD, qN⟩ := q; exact ⟨q0, q1, qP, va_K.moved (u := U) (U := U.calling g mk a) (Vm.Alike.refl U.vm) qK, qD, qN.same rfl⟩, va_recv hK hP (ci := 8) (q0 := 7) rfl rfl, fun U hU hW => ⟨rfl, by rw [hU], by rw [hU]; exact hPc, va_K.moved hW.alike hKc, hDc.weaken (fun _ _ _ _ => trivial), hN.warm hW⟩⟩ rfl rfl hl.1 rfl (lv_room (Nat.le_of_ble_eq_true rfl)) px_dL_254 ⟨(Nat.le_of_ble_eq_true rfl), (Nat.le_of_ble_eq_true rfl)⟩) hS (fun q _ h => hFc q h) hFc (fun r u t H1 locs ht hvm hw_254 hB hz1 hk1 hS => ?_)
  obtain ⟨hP1, hK1, hD1⟩ := hB
  rw [ht] at hP1
  have hK1 := va_K.moved hvm.symm hK1
  obtain ⟨hP, hD⟩ := va_join (wr := [(qb, .inl (cb, 512, .inl (fun _ => 0))), (qm, .inl (cm, 26, .inr (.inr (.inr (.inr (fun _ => none)))))), (qt, .inr (5, [.ref q7, .int 0, .int 0, .int 0, .int 0, .int 0])), (qp, .inr (7, [.ref q10, .ref q11, .int 0, .int 0])), (rt, .inl (ct, 26, .inl (fun _ => 0))), (rc, .inl (cc, 16384, .inl (fun _ => 0))), (ot, .inl (co, 1, .inr (.inl (fun _ => 0))))]) (w1 := [(mo, .inr (8, (fs.set 49 (.int 1))))]) hP hD [7] [0, 1, 2, 3, 4, 5, 6] rfl rfl (by decide) (by decide) hk1 hFc hP1 hD1
  generalize H1 = H at hP hS ⊢
  have hP : va_P (dC, dI) vwCl [(qb, .inl (cb, 512, .inl (fun _ => 0))), (qm, .inl (cm, 26, .inr (.inr (.inr (.inr (fun _ => none)))))), (qt, .inr (5, [.ref q7, .int 0, .int 0, .int 0, .int 0, .int 0])), (qp, .inr (7, [.ref q10, .ref q11, .int 0, .int 0])), (rt, .inl (ct, 26, .inl (fun _ => 0))), (rc, .inl (cc, 16384, .inl (fun _ => 0))), (ot, .inl (co, 1, .inr (.inl (fun _ => 0)))), (mo, .inr (8, (fs.set 49 (.int 1))))] H := hP
  have hD : va_D (fun q : Nat => s.heap.size ≤ q) [(qb, .inl (cb, 512, .inl (fun _ => 0))), (qm, .inl (cm, 26, .inr (.inr (.inr (.inr (fun _ => none)))))), (qt, .inr (5, [.ref q7, .int 0, .int 0, .int 0, .int 0, .int 0])), (qp, .inr (7, [.ref q10, .ref q11, .int 0, .int 0])), (rt, .inl (ct, 26, .inl (fun _ => 0))), (rc, .inl (cc, 16384, .inl (fun _ => 0))), (ot, .inl (co, 1, .inr (.inl (fun _ => 0)))), (mo, .inr (8, (fs.set 49 (.int 1))))] := hD
  subst hw_254
  refine lv_iload hx hb px_dL_257 (lv_at hl 1 rfl) ?_
  refine lv_icmp_eq (tgt := 264) hx hb px_dL_259 (by decide) (fun _ => ?_) (fun h9 => absurd (by decide +kernel) h9)
  refine lv_iload hx hb px_dL_264 (lv_at hl 1 rfl) ?_
  refine lv_if_ne (tgt := 281) hx hb px_dL_266 (by decide) (fun _ => ?_) (fun h9 => absurd h9 (by decide +kernel))
  refine lv_goto (tgt := 917) hx hb px_dL_281 (by decide) ?_
  exact px_tail C0 (by decide) (by decide) hS (lv_sub hl [2, 6] rfl)
