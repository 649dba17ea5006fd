/-! MatroidDeskModel.divisor(LMatroidDeskModel$Num;LMatroidDeskModel$Num;)V -/
def w46_L32 (a1x : Nat) (a2x : Nat) (post : (Nat → Int32) → (Nat → px_NV) → Prop) : Nat → (Nat → Int32) → (Nat → px_NV) → Prop
  | 0 => fun _ _ => False
  | k + 1 => fun iv nv => ((((nv 195).1) ≤ 0 → post iv nv) ∧ (¬ ((nv 195).1) ≤ 0 → px_ix [194, 196, 195, 193] ∧ (nqu_wp (fun v1 v2 v3 v4 v5 v6 v7 v8 v9 v10 v11 v12 => ∀ nv14 : Nat → px_NV, nv14 = px_fold nv [(194, ⟨v1, v2, v3⟩), (196, ⟨v4, v5, v6⟩), (195, ⟨v7, v8, v9⟩), (193, ⟨v10, v11, v12⟩)] → (px_ix [196, 195] ∧ (ncp_wp (fun v15 v16 v17 v18 v19 v20 => ∀ nv22 : Nat → px_NV, nv22 = px_fold nv14 [(196, ⟨v15, v16, v17⟩), (195, ⟨v18, v19, v20⟩)] → (px_ix [195, 193] ∧ (ncp_wp (fun v23 v24 v25 v26 v27 v28 => ∀ nv30 : Nat → px_NV, nv30 = px_fold nv22 [(195, ⟨v23, v24, v25⟩), (193, ⟨v26, v27, v28⟩)] → ((w46_L32 a1x a2x post k) iv nv30)) ((nv22 195).1) ((nv22 195).2.1) ((nv22 195).2.2) ((nv22 193).1) ((nv22 193).2.1) ((nv22 193).2.2)))) ((nv14 196).1) ((nv14 196).2.1) ((nv14 196).2.2) ((nv14 195).1) ((nv14 195).2.1) ((nv14 195).2.2)))) ((nv 194).1) ((nv 194).2.1) ((nv 194).2.2) ((nv 196).1) ((nv 196).2.1) ((nv 196).2.2) ((nv 195).1) ((nv 195).2.1) ((nv 195).2.2) ((nv 193).1) ((nv 193).2.1) ((nv 193).2.2))))
def w46_wp (a1x : Nat) (a2x : Nat) (post : (Nat → Int32) → (Nat → px_NV) → Prop) (iv : Nat → Int32) (nv : Nat → px_NV) : Prop := px_ix [196, a1x] ∧ (ncp_wp (fun v31 v32 v33 v34 v35 v36 => ∀ nv38 : Nat → px_NV, nv38 = px_fold nv [(196, ⟨v31, v32, v33⟩), (a1x, ⟨v34, v35, v36⟩)] → (((∀ nv39 : Nat → px_NV, nv39 = va_up nv38 196 ⟨(nv38 196).1, 0, (nv38 196).2.2⟩ → (px_ix [195, a2x] ∧ (ncp_wp (fun v40 v41 v42 v43 v44 v45 => ∀ nv47 : Nat → px_NV, nv47 = px_fold nv39 [(195, ⟨v40, v41, v42⟩), (a2x, ⟨v43, v44, v45⟩)] → (((∀ nv48 : Nat → px_NV, nv48 = va_up nv47 195 ⟨(nv47 195).1, 0, (nv47 195).2.2⟩ → (∃ j32, w46_L32 a1x a2x post j32 iv nv48))))) ((nv39 195).1) ((nv39 195).2.1) ((nv39 195).2.2) ((nv39 a2x).1) ((nv39 a2x).2.1) ((nv39 a2x).2.2))))))) ((nv 196).1) ((nv 196).2.1) ((nv 196).2.2) ((nv a1x).1) ((nv a1x).2.1) ((nv a1x).2.2))
set_option maxHeartbeats 8000000 in
set_option maxRecDepth 100000 in
theorem w46_met (l : Launch) (dC : Nat → ClassId) (dI : Nat → Nat → Nat) (sz : Nat) (h0 : Nat) (rf : Nat → Nat) (hh : Nat → Nat) (qq : Nat → Nat) (cN : ClassId) (a1x : Nat) (a2x : Nat) (iv : Nat → Int32) (nv : Nat → px_NV) (post : (Nat → Int32) → (Nat → px_NV) → Prop) (hw : w46_wp a1x a2x post iv nv) : Met l px_y46 px_s46 ({ frames := 3, cells := 0, slots := 0, locals := 80 }) (va_Pc [.ref h0, .ref (hh a1x), .ref (hh a2x)] (fun U => U.heap.size = sz ∧ va_P (dC, dI) vwCl (([(h0, .inr (8, px_mf (px_rf hh rf) iv))] : va_W) ++ px_np hh qq cN nv) U.heap ∧ va_K (dC, dI) vwCl [(cN, .int)] U ∧ va_D (fun _ => True) (([(h0, .inr (8, px_mf (px_rf hh rf) iv))] : va_W) ++ px_np hh qq cN nv) ∧ px_N U)) (va_Qv (fun (u : (Nat → Int32) × (Nat → px_NV)) => post u.1 u.2) (fun (u : (Nat → Int32) × (Nat → px_NV)) (t : State) => va_P (dC, dI) vwCl (([(h0, .inr (8, px_mf (px_rf hh rf) u.1))] : va_W) ++ px_np hh qq cN u.2) t.heap ∧ va_K (dC, dI) vwCl [(cN, .int)] t ∧ va_D (va_A (([(h0, .inr (8, px_mf (px_rf hh rf) iv))] : va_W) ++ px_np hh qq cN nv) sz) (([(h0, .inr (8, px_mf (px_rf hh rf) u.1))] : va_W) ++ px_np hh qq cN u.2)) (va_A (([(h0, .inr (8, px_mf (px_rf hh rf) iv))] : va_W) ++ px_np hh qq cN nv) sz)) 0 0 (va_A (([(h0, .inr (8, px_mf (px_rf hh rf) iv))] : va_W) ++ px_np hh qq cN nv) sz) := by
  refine Met.ofW (cc := prog_15_method_1_code) (maxL := 3) (ret := none) (by decide) rfl ?_
  intro p e s m args below meth c s₁ B hml hv
  obtain ⟨rfl, hsz, hP, hK, hD0, hN⟩ := hv
  have hx := B.exec
  have hb := B.bytes
  have hr := B.returns
  have htw : ∀ w ∈ px_all, w.before _ s = true := fun w h => atoms_spec (ws := px_s46) B.pre w (List.mem_cons_of_mem _ h)
  have hown : s.vm.findClass "MatroidDeskModel" = some m.cls := findClass_of_methodNamed B.named
  have hlocks := B.notSynchronized
  subst hsz
  have hD := hD0.self (sz := s.heap.size)
  generalize hAe : va_A (([(h0, .inr (8, px_mf (px_rf hh rf) iv))] : va_W) ++ px_np hh qq cN nv) s.heap.size = A at hD ⊢
  have hA : ∀ q : Nat, s.heap.size ≤ q → A q := fun q h => by rw [← hAe]; exact Or.inr h
  have hS : va_S A s.heap s.heap [] := va_S.rf
  have hP : va_P (dC, dI) vwCl (([(h0, .inr (8, px_mf (px_rf hh rf) iv))] : va_W) ++ px_np hh qq cN nv) s.heap := hP
  have hl := lv_entry ([.ref h0, .ref (hh a1x), .ref (hh a2x)]) (n := 3) (Nat.le_of_ble_eq_true rfl)
  rw [lg_entry_eq]
  generalize (lg_sl ([.ref h0, .ref (hh a1x), .ref (hh a2x)]) ++ List.replicate (3 - (lg_sl ([.ref h0, .ref (hh a1x), .ref (hh a2x)])).length) Slot.unset).toArray = ls at hl ⊢
  have hl : lv_has ls 3 [(0, .ref h0), (1, .ref (hh a1x)), (2, .ref (hh a2x))] := hl
  generalize hQ : MQ _ _ _ _ _ _ _ = Q
  have S32 : ∀ (k32 : Nat) (iv : Nat → Int32) (nv : Nat → px_NV) (H : Heap) (locs : List Loc) (ls : Array Slot), va_P (dC, dI) vwCl (([(h0, .inr (8, px_mf (px_rf hh rf) iv))] : va_W) ++ px_np hh qq cN nv) H → va_D A (([(h0, .inr (8, px_mf (px_rf hh rf) iv))] : va_W) ++ px_np hh qq cN nv) → va_S A s.heap H locs → lv_has ls 3 [(0, .ref h0), (1, .ref (hh a1x)), (2, .ref (hh a2x))] → w46_L32 a1x a2x post k32 iv nv → W p l e (headSpec px_s46 ({ frames := 3, cells := 0, slots := 0, locals := 80 })).room s m ([.ref h0, .ref (hh a1x), .ref (hh a2x)]).toArray below meth c H locs 0 0 Q (F0 m 32 ls []) := by
    intro k32
    induction k32 with
    | zero => intro iv nv H locs ls hP hD hS hl hw; exact False.elim hw
    | succ k32 ih32 =>
      intro iv nv H locs ls hP hD hS hl hw
      unfold w46_L32 at hw
      refine lv_aload_n hx hb px_d46_32 rfl (lv_at hl 0 rfl) ?_
      refine va_get (D := (dC, dI)) (ci := 8) (v := .ref (hh 195)) (C := "MatroidDeskModel") (T := px_T8) (N := 53) hx hb htw px_in8 hown hK hP 0 rfl rfl 3 (by decide) (htw _ px_w416) (fun _ h9 => h9) rfl px_d46_33 ?_
      refine va_get (D := (dC, dI)) (ci := 9) (v := .int ((nv 195).1)) (C := "MatroidDeskModel$Num") (T := px_T9) (N := 3) hx hb htw px_in9 hown hK hP (1 + 195) (px_go rfl (by decide)) rfl 1 (by decide) (htw _ px_w417) (fun _ h9 => h9) rfl px_d46_36 ?_
      refine lv_if_le (tgt := 86) hx hb px_d46_39 (by decide) (fun c39 => ?_) (fun c39 => ?_)
      · have hw := hw.1 c39
        rw [← hQ]
        exact W.vret hx hb hr (fun t ht hW => ⟨⟨(iv, nv), rfl, hw, by rw [ht]; exact hP, va_K.moved hW.alike hK, hD⟩, hS.F ht⟩) hS.2.2 px_d46_86
      · have hw := hw.2 c39
        refine lv_aload_n hx hb px_d46_42 rfl (lv_at hl 0 rfl) ?_
        refine va_get (D := (dC, dI)) (ci := 8) (v := .ref (hh 194)) (C := "MatroidDeskModel") (T := px_T8) (N := 53) hx hb htw px_in8 hown hK hP 0 rfl rfl 2 (by decide) (htw _ px_w418) (fun _ h9 => h9) rfl px_d46_43 ?_
        refine lv_aload_n hx hb px_d46_46 rfl (lv_at hl 0 rfl) ?_
        refine va_get (D := (dC, dI)) (ci := 8) (v := .ref (hh 196)) (C := "MatroidDeskModel") (T := px_T8) (N := 53) hx hb htw px_in8 hown hK hP 0 rfl rfl 4 (by decide) (htw _ px_w413) (fun _ h9 => h9) rfl px_d46_47 ?_
        refine lv_aload_n hx hb px_d46_50 rfl (lv_at hl 0 rfl) ?_
        refine va_get (D := (dC, dI)) (ci := 8) (v := .ref (hh 195)) (C := "MatroidDeskModel") (T := px_T8) (N := 53) hx hb htw px_in8 hown hK hP 0 rfl rfl 3 (by decide) (htw _ px_w416) (fun _ h9 => h9) rfl px_d46_51 ?_
        refine lv_aload_n hx hb px_d46_54 rfl (lv_at hl 0 rfl) ?_
        refine va_get (D := (dC, dI)) (ci := 8) (v := .ref (hh 193)) (C := "MatroidDeskModel") (T := px_T8) (N := 53) hx hb htw px_in8 hown hK hP 0 rfl rfl 1 (by decide) (htw _ px_w419) (fun _ h9 => h9) rfl px_d46_55 ?_
        obtain ⟨hk58, hw⟩ := hw
        have hPc : va_P (dC, dI) vwCl [(hh 194, .inr (9, [.ref (qq 194), .int ((nv 194).1), .int ((nv 194).2.1)])), (qq 194, .inl (cN, 160, .inl ((nv 194).2.2))), (hh 196, .inr (9, [.ref (qq 196), .int ((nv 196).1), .int ((nv 196).2.1)])), (qq 196, .inl (cN, 160, .inl ((nv 196).2.2))), (hh 195, .inr (9, [.ref (qq 195), .int ((nv 195).1), .int ((nv 195).2.1)])), (qq 195, .inl (cN, 160, .inl ((nv 195).2.2))), (hh 193, .inr (9, [.ref (qq 193), .int ((nv 193).1), .int ((nv 193).2.1)])), (qq 193, .inl (cN, 160, .inl ((nv 193).2.2)))] H := px_outP hP [194, 196, 195, 193] hk58
        have hDc : va_D A [(hh 194, .inr (9, [.ref (qq 194), .int ((nv 194).1), .int ((nv 194).2.1)])), (qq 194, .inl (cN, 160, .inl ((nv 194).2.2))), (hh 196, .inr (9, [.ref (qq 196), .int ((nv 196).1), .int ((nv 196).2.1)])), (qq 196, .inl (cN, 160, .inl ((nv 196).2.2))), (hh 195, .inr (9, [.ref (qq 195), .int ((nv 195).1), .int ((nv 195).2.1)])), (qq 195, .inl (cN, 160, .inl ((nv 195).2.2))), (hh 193, .inr (9, [.ref (qq 193), .int ((nv 193).1), .int ((nv 193).2.1)])), (qq 193, .inl (cN, 160, .inl ((nv 193).2.2)))] := px_outD hD [194, 196, 195, 193] hk58
        have hFc : ∀ q, va_A [(hh 194, .inr (9, [.ref (qq 194), .int ((nv 194).1), .int ((nv 194).2.1)])), (qq 194, .inl (cN, 160, .inl ((nv 194).2.2))), (hh 196, .inr (9, [.ref (qq 196), .int ((nv 196).1), .int ((nv 196).2.1)])), (qq 196, .inl (cN, 160, .inl ((nv 196).2.2))), (hh 195, .inr (9, [.ref (qq 195), .int ((nv 195).1), .int ((nv 195).2.1)])), (qq 195, .inl (cN, 160, .inl ((nv 195).2.2))), (hh 193, .inr (9, [.ref (qq 193), .int ((nv 193).1), .int ((nv 193).2.1)])), (qq 193, .inl (cN, 160, .inl ((nv 193).2.2)))] H.size q → A q := px_outF hD hS hA [194, 196, 195, 193] hk58
        have hKc := hK.sub (tys' := [(cN, .int), (cN, .int), (cN, .int), (cN, .int)]) [0, 0, 0, 0] rfl
        refine va_callv (va_runV (As := [.ref (hh 196), .ref (hh 195), .ref (hh 193)]) (rest := []) ⟨hx, hb, hml, hown, htw⟩ (nqu_met l dC dI H.size (hh 194) (qq 194) (hh 196) (qq 196) (hh 195) (qq 195) (hh 193) (qq 193) cN cN cN cN ((nv 194).1) ((nv 194).2.1) ((nv 194).2.2) ((nv 196).1) ((nv 196).2.1) ((nv 196).2.2) ((nv 195).1) ((nv 195).2.1) ((nv 195).2.2) ((nv 193).1) ((nv 193).2.1) ((nv 193).2.2) _ hw) (cwV 3 htw (px_gv px_w420 px_w306 px_w307 px_w149 px_g19) rfl rfl rfl (by decide +kernel) ⟨Nat.le_of_ble_eq_true rfl, Nat.le_of_ble_eq_true rfl⟩) ⟨fun a U g mk q => by obtain ⟨q0, q1, qP, qK, qD, qN⟩ := q; exact ⟨q0, q1, qP, va_K.moved (u := U) (U := U.calling g mk a) (Vm.Alike.refl U.vm) qK, qD, qN.same rfl⟩, va_recv hK hPc (ci := 9) (q0 := 0) rfl rfl, fun U hU hW => ⟨rfl, by rw [hU], by rw [hU]; exact hPc, va_K.moved hW.alike hKc, hDc.weaken (fun _ _ _ _ => trivial), hN.warm hW⟩⟩ rfl rfl hl.1 rfl (lv_room (Nat.le_of_ble_eq_true rfl)) px_d46_58 ⟨(Nat.le_of_ble_eq_true rfl), (Nat.le_of_ble_eq_true rfl)⟩) hS (fun q _ h => hFc q h) hFc (fun u t H1 locs ht hvm hw hB hz1 hk1 hS => ?_)
        obtain ⟨v1, v2, v3, v4, v5, v6, v7, v8, v9, v10, v11, v12⟩ := u
        obtain ⟨hP1, hK1, hD1⟩ := hB
        rw [ht] at hP1
        obtain ⟨nv14, env14⟩ : ∃ z : Nat → px_NV, z = px_fold nv [(194, ⟨v1, v2, v3⟩), (196, ⟨v4, v5, v6⟩), (195, ⟨v7, v8, v9⟩), (193, ⟨v10, v11, v12⟩)] := ⟨_, rfl⟩
        have hw := hw nv14 env14
        obtain ⟨hP, hD⟩ := px_in hP hD [194, 196, 195, 193] hk58 [(194, ⟨v1, v2, v3⟩), (196, ⟨v4, v5, v6⟩), (195, ⟨v7, v8, v9⟩), (193, ⟨v10, v11, v12⟩)] rfl hk1 hP1 env14
        generalize H1 = H at hP hS ⊢
        have hP : va_P (dC, dI) vwCl (([(h0, .inr (8, px_mf (px_rf hh rf) iv))] : va_W) ++ px_np hh qq cN nv14) H := hP
        have hD : va_D A (([(h0, .inr (8, px_mf (px_rf hh rf) iv))] : va_W) ++ px_np hh qq cN nv14) := hD
        refine lv_aload_n hx hb px_d46_61 rfl (lv_at hl 0 rfl) ?_
        refine va_get (D := (dC, dI)) (ci := 8) (v := .ref (hh 196)) (C := "MatroidDeskModel") (T := px_T8) (N := 53) hx hb htw px_in8 hown hK hP 0 rfl rfl 4 (by decide) (htw _ px_w413) (fun _ h9 => h9) rfl px_d46_62 ?_
        refine lv_aload_n hx hb px_d46_65 rfl (lv_at hl 0 rfl) ?_
        refine va_get (D := (dC, dI)) (ci := 8) (v := .ref (hh 195)) (C := "MatroidDeskModel") (T := px_T8) (N := 53) hx hb htw px_in8 hown hK hP 0 rfl rfl 3 (by decide) (htw _ px_w416) (fun _ h9 => h9) rfl px_d46_66 ?_
        obtain ⟨hk69, hw⟩ := hw
        have hPc : va_P (dC, dI) vwCl [(hh 196, .inr (9, [.ref (qq 196), .int ((nv14 196).1), .int ((nv14 196).2.1)])), (qq 196, .inl (cN, 160, .inl ((nv14 196).2.2))), (hh 195, .inr (9, [.ref (qq 195), .int ((nv14 195).1), .int ((nv14 195).2.1)])), (qq 195, .inl (cN, 160, .inl ((nv14 195).2.2)))] H := px_outP hP [196, 195] hk69
        have hDc : va_D A [(hh 196, .inr (9, [.ref (qq 196), .int ((nv14 196).1), .int ((nv14 196).2.1)])), (qq 196, .inl (cN, 160, .inl ((nv14 196).2.2))), (hh 195, .inr (9, [.ref (qq 195), .int ((nv14 195).1), .int ((nv14 195).2.1)])), (qq 195, .inl (cN, 160, .inl ((nv14 195).2.2)))] := px_outD hD [196, 195] hk69
        have hFc : ∀ q, va_A [(hh 196, .inr (9, [.ref (qq 196), .int ((nv14 196).1), .int ((nv14 196).2.1)])), (qq 196, .inl (cN, 160, .inl ((nv14 196).2.2))), (hh 195, .inr (9, [.ref (qq 195), .int ((nv14 195).1), .int ((nv14 195).2.1)])), (qq 195, .inl (cN, 160, .inl ((nv14 195).2.2)))] H.size q → A q := px_outF hD hS hA [196, 195] hk69
        have hKc := hK.sub (tys' := [(cN, .int), (cN, .int)]) [0, 0] rfl
        refine va_callv (va_runV (As := [.ref (hh 195)]) (rest := []) ⟨hx, hb, hml, hown, htw⟩ (ncp_met l dC dI H.size (hh 196) (qq 196) (hh 195) (qq 195) cN cN ((nv14 196).1) ((nv14 196).2.1) ((nv14 196).2.2) ((nv14 195).1) ((nv14 195).2.1) ((nv14 195).2.2) _ hw) (cwV 1 htw (px_gv px_w414 px_w274 px_w275 px_w149 px_g10) rfl rfl rfl (by decide +kernel) ⟨Nat.le_of_ble_eq_true rfl, Nat.le_of_ble_eq_true rfl⟩) ⟨fun a U g mk q => by obtain ⟨q0, q1, qP, qK, qD, qN⟩ := q; exact ⟨q0, q1, qP, va_K.moved (u := U) (U := U.calling g mk a) (Vm.Alike.refl U.vm) qK, qD, qN.same rfl⟩, va_recv hK hPc (ci := 9) (q0 := 0) rfl rfl, fun U hU hW => ⟨rfl, by rw [hU], by rw [hU]; exact hPc, va_K.moved hW.alike hKc, hDc.weaken (fun _ _ _ _ => trivial), hN.warm hW⟩⟩ rfl rfl hl.1 rfl (lv_room (Nat.le_of_ble_eq_true rfl)) px_d46_69 ⟨(Nat.le_of_ble_eq_true rfl), (Nat.le_of_ble_eq_true rfl)⟩) hS (fun q _ h => hFc q h) hFc (fun u t H1 locs ht hvm hw hB hz1 hk1 hS => ?_)
        obtain ⟨v15, v16, v17, v18, v19, v20⟩ := u
        obtain ⟨hP1, hK1, hD1⟩ := hB
        rw [ht] at hP1
        obtain ⟨nv22, env22⟩ : ∃ z : Nat → px_NV, z = px_fold nv14 [(196, ⟨v15, v16, v17⟩), (195, ⟨v18, v19, v20⟩)] := ⟨_, rfl⟩
        have hw := hw nv22 env22
        obtain ⟨hP, hD⟩ := px_in hP hD [196, 195] hk69 [(196, ⟨v15, v16, v17⟩), (195, ⟨v18, v19, v20⟩)] rfl hk1 hP1 env22
        generalize H1 = H at hP hS ⊢
        have hP : va_P (dC, dI) vwCl (([(h0, .inr (8, px_mf (px_rf hh rf) iv))] : va_W) ++ px_np hh qq cN nv22) H := hP
        have hD : va_D A (([(h0, .inr (8, px_mf (px_rf hh rf) iv))] : va_W) ++ px_np hh qq cN nv22) := hD
        refine lv_aload_n hx hb px_d46_72 rfl (lv_at hl 0 rfl) ?_
        refine va_get (D := (dC, dI)) (ci := 8) (v := .ref (hh 195)) (C := "MatroidDeskModel") (T := px_T8) (N := 53) hx hb htw px_in8 hown hK hP 0 rfl rfl 3 (by decide) (htw _ px_w416) (fun _ h9 => h9) rfl px_d46_73 ?_
        refine lv_aload_n hx hb px_d46_76 rfl (lv_at hl 0 rfl) ?_
        refine va_get (D := (dC, dI)) (ci := 8) (v := .ref (hh 193)) (C := "MatroidDeskModel") (T := px_T8) (N := 53) hx hb htw px_in8 hown hK hP 0 rfl rfl 1 (by decide) (htw _ px_w419) (fun _ h9 => h9) rfl px_d46_77 ?_
        obtain ⟨hk80, hw⟩ := hw
        have hPc : va_P (dC, dI) vwCl [(hh 195, .inr (9, [.ref (qq 195), .int ((nv22 195).1), .int ((nv22 195).2.1)])), (qq 195, .inl (cN, 160, .inl ((nv22 195).2.2))), (hh 193, .inr (9, [.ref (qq 193), .int ((nv22 193).1), .int ((nv22 193).2.1)])), (qq 193, .inl (cN, 160, .inl ((nv22 193).2.2)))] H := px_outP hP [195, 193] hk80
        have hDc : va_D A [(hh 195, .inr (9, [.ref (qq 195), .int ((nv22 195).1), .int ((nv22 195).2.1)])), (qq 195, .inl (cN, 160, .inl ((nv22 195).2.2))), (hh 193, .inr (9, [.ref (qq 193), .int ((nv22 193).1), .int ((nv22 193).2.1)])), (qq 193, .inl (cN, 160, .inl ((nv22 193).2.2)))] := px_outD hD [195, 193] hk80
        have hFc : ∀ q, va_A [(hh 195, .inr (9, [.ref (qq 195), .int ((nv22 195).1), .int ((nv22 195).2.1)])), (qq 195, .inl (cN, 160, .inl ((nv22 195).2.2))), (hh 193, .inr (9, [.ref (qq 193), .int ((nv22 193).1), .int ((nv22 193).2.1)])), (qq 193, .inl (cN, 160, .inl ((nv22 193).2.2)))] H.size q → A q := px_outF hD hS hA [195, 193] hk80
        have hKc := hK.sub (tys' := [(cN, .int), (cN, .int)]) [0, 0] rfl
        refine va_callv (va_runV (As := [.ref (hh 193)]) (rest := []) ⟨hx, hb, hml, hown, htw⟩ (ncp_met l dC dI H.size (hh 195) (qq 195) (hh 193) (qq 193) cN cN ((nv22 195).1) ((nv22 195).2.1) ((nv22 195).2.2) ((nv22 193).1) ((nv22 193).2.1) ((nv22 193).2.2) _ hw) (cwV 1 htw (px_gv px_w414 px_w274 px_w275 px_w149 px_g10) rfl rfl rfl (by decide +kernel) ⟨Nat.le_of_ble_eq_true rfl, Nat.le_of_ble_eq_true rfl⟩) ⟨fun a U g mk q => by obtain ⟨q0, q1, qP, qK, qD, qN⟩ := q; exact ⟨q0, q1, qP, va_K.moved (u := U) (U := U.calling g mk a) (Vm.Alike.refl U.vm) qK, qD, qN.same rfl⟩, va_recv hK hPc (ci := 9) (q0 := 0) rfl rfl, fun U hU hW => ⟨rfl, by rw [hU], by rw [hU]; exact hPc, va_K.moved hW.alike hKc, hDc.weaken (fun _ _ _ _ => trivial), hN.warm hW⟩⟩ rfl rfl hl.1 rfl (lv_room (Nat.le_of_ble_eq_true rfl)) px_d46_80 ⟨(Nat.le_of_ble_eq_true rfl), (Nat.le_of_ble_eq_true rfl)⟩) hS (fun q _ h => hFc q h) hFc (fun u t H1 locs ht hvm hw hB hz1 hk1 hS => ?_)
        obtain ⟨v23, v24, v25, v26, v27, v28⟩ := u
        obtain ⟨hP1, hK1, hD1⟩ := hB
        rw [ht] at hP1
        obtain ⟨nv30, env30⟩ : ∃ z : Nat → px_NV, z = px_fold nv22 [(195, ⟨v23, v24, v25⟩), (193, ⟨v26, v27, v28⟩)] := ⟨_, rfl⟩
        have hw := hw nv30 env30
        obtain ⟨hP, hD⟩ := px_in hP hD [195, 193] hk80 [(195, ⟨v23, v24, v25⟩), (193, ⟨v26, v27, v28⟩)] rfl hk1 hP1 env30
        generalize H1 = H at hP hS ⊢
        have hP : va_P (dC, dI) vwCl (([(h0, .inr (8, px_mf (px_rf hh rf) iv))] : va_W) ++ px_np hh qq cN nv30) H := hP
        have hD : va_D A (([(h0, .inr (8, px_mf (px_rf hh rf) iv))] : va_W) ++ px_np hh qq cN nv30) := hD
        refine lv_goto (tgt := 32) hx hb px_d46_83 (by decide) ?_
        exact ih32 iv nv30 H locs ls hP hD hS (lv_sub hl [0, 1, 2] rfl) hw
  unfold w46_wp at hw
  have hS0 := hS
  obtain ⟨H, hH9⟩ : ∃ z, z = s.heap := ⟨_, rfl⟩
  have hP : va_P (dC, dI) vwCl (([(h0, .inr (8, px_mf (px_rf hh rf) iv))] : va_W) ++ px_np hh qq cN nv) H := by rw [hH9]; exact hP
  obtain ⟨locs, hlo9⟩ : ∃ z : List Loc, z = [] := ⟨_, rfl⟩
  have hS : va_S A s.heap H locs := by rw [hH9, hlo9]; exact hS
  suffices hG : W p l e (headSpec px_s46 ({ frames := 3, cells := 0, slots := 0, locals := 80 })).room s m ([.ref h0, .ref (hh a1x), .ref (hh a2x)]).toArray below meth c H locs 0 0 Q (F0 m 0 ls []) by rw [hH9, hlo9] at hG; exact hG
  refine lv_aload_n hx hb px_d46_0 rfl (lv_at hl 0 rfl) ?_
  refine va_get (D := (dC, dI)) (ci := 8) (v := .ref (hh 196)) (C := "MatroidDeskModel") (T := px_T8) (N := 53) hx hb htw px_in8 hown hK hP 0 rfl rfl 4 (by decide) (htw _ px_w413) (fun _ h9 => h9) rfl px_d46_1 ?_
  refine lv_aload_n hx hb px_d46_4 rfl (lv_at hl 1 rfl) ?_
  obtain ⟨hk5, hw⟩ := hw
  have hPc : va_P (dC, dI) vwCl [(hh 196, .inr (9, [.ref (qq 196), .int ((nv 196).1), .int ((nv 196).2.1)])), (qq 196, .inl (cN, 160, .inl ((nv 196).2.2))), (hh a1x, .inr (9, [.ref (qq a1x), .int ((nv a1x).1), .int ((nv a1x).2.1)])), (qq a1x, .inl (cN, 160, .inl ((nv a1x).2.2)))] H := px_outP hP [196, a1x] hk5
  have hDc : va_D A [(hh 196, .inr (9, [.ref (qq 196), .int ((nv 196).1), .int ((nv 196).2.1)])), (qq 196, .inl (cN, 160, .inl ((nv 196).2.2))), (hh a1x, .inr (9, [.ref (qq a1x), .int ((nv a1x).1), .int ((nv a1x).2.1)])), (qq a1x, .inl (cN, 160, .inl ((nv a1x).2.2)))] := px_outD hD [196, a1x] hk5
  have hFc : ∀ q, va_A [(hh 196, .inr (9, [.ref (qq 196), .int ((nv 196).1), .int ((nv 196).2.1)])), (qq 196, .inl (cN, 160, .inl ((nv 196).2.2))), (hh a1x, .inr (9, [.ref (qq a1x), .int ((nv a1x).1), .int ((nv a1x).2.1)])), (qq a1x, .inl (cN, 160, .inl ((nv a1x).2.2)))] H.size q → A q := px_outF hD hS hA [196, a1x] hk5
  have hKc := hK.sub (tys' := [(cN, .int), (cN, .int)]) [0, 0] rfl
  refine va_callv (va_runV (As := [.ref (hh a1x)]) (rest := []) ⟨hx, hb, hml, hown, htw⟩ (ncp_met l dC dI H.size (hh 196) (qq 196) (hh a1x) (qq a1x) cN cN ((nv 196).1) ((nv 196).2.1) ((nv 196).2.2) ((nv a1x).1) ((nv a1x).2.1) ((nv a1x).2.2) _ hw) (cwV 1 htw (px_gv px_w414 px_w274 px_w275 px_w149 px_g10) rfl rfl rfl (by decide +kernel) ⟨Nat.le_of_ble_eq_true rfl, Nat.le_of_ble_eq_true rfl⟩) ⟨fun a U g mk q => by obtain ⟨q0, q1, qP, qK, qD, qN⟩ := q; exact ⟨q0, q1, qP, va_K.moved (u := U) (U := U.calling g mk a) (Vm.Alike.refl U.vm) qK, qD, qN.same rfl⟩, va_recv hK hPc (ci := 9) (q0 := 0) rfl rfl, fun U hU hW => ⟨rfl, by rw [hU], by rw [hU]; exact hPc, va_K.moved hW.alike hKc, hDc.weaken (fun _ _ _ _ => trivial), hN.warm hW⟩⟩ rfl rfl hl.1 rfl (lv_room (Nat.le_of_ble_eq_true rfl)) px_d46_5 ⟨(Nat.le_of_ble_eq_true rfl), (Nat.le_of_ble_eq_true rfl)⟩) hS (fun q _ h => hFc q h) hFc (fun u t H1 locs ht hvm hw hB hz1 hk1 hS => ?_)
  obtain ⟨v31, v32, v33, v34, v35, v36⟩ := u
  obtain ⟨hP1, hK1, hD1⟩ := hB
  rw [ht] at hP1
  obtain ⟨nv38, env38⟩ : ∃ z : Nat → px_NV, z = px_fold nv [(196, ⟨v31, v32, v33⟩), (a1x, ⟨v34, v35, v36⟩)] := ⟨_, rfl⟩
  have hw := hw nv38 env38
  obtain ⟨hP, hD⟩ := px_in hP hD [196, a1x] hk5 [(196, ⟨v31, v32, v33⟩), (a1x, ⟨v34, v35, v36⟩)] rfl hk1 hP1 env38
  generalize H1 = H at hP hS ⊢
  have hP : va_P (dC, dI) vwCl (([(h0, .inr (8, px_mf (px_rf hh rf) iv))] : va_W) ++ px_np hh qq cN nv38) H := hP
  have hD : va_D A (([(h0, .inr (8, px_mf (px_rf hh rf) iv))] : va_W) ++ px_np hh qq cN nv38) := hD
  refine lv_aload_n hx hb px_d46_8 rfl (lv_at hl 0 rfl) ?_
  refine va_get (D := (dC, dI)) (ci := 8) (v := .ref (hh 196)) (C := "MatroidDeskModel") (T := px_T8) (N := 53) hx hb htw px_in8 hown hK hP 0 rfl rfl 4 (by decide) (htw _ px_w413) (fun _ h9 => h9) rfl px_d46_9 ?_
  refine lv_iconst (v := 0) hx hb px_d46_12 (by decide) ?_
  obtain ⟨nv39, env39⟩ : ∃ z : Nat → px_NV, z = va_up nv38 196 ⟨(nv38 196).1, 0, (nv38 196).2.2⟩ := ⟨_, rfl⟩
  refine va_put (D := (dC, dI)) (ci := 9) (v := .int 0) (ty := .boolean) (C := "MatroidDeskModel$Num") (T := px_T9) (N := 3) hx hb htw px_in9 px_ty9 px_tyok9 px_nm9 hown hK hP hD hS (1 + 196) (px_go rfl (by decide)) rfl 2 (by decide) (htw _ px_w415) (fun _ h9 => h9) rfl (by decide +kernel) (by decide +kernel) (by decide +kernel) (Nat.le_of_ble_eq_true rfl) px_d46_13 (fun H locs hP hD hS => ?_)
  have hP : va_P (dC, dI) vwCl (([(h0, .inr (8, px_mf (px_rf hh rf) iv))] : va_W) ++ px_np hh qq cN nv39) H := px_soP rfl (by decide) env39 hP
  have hD : va_D A (([(h0, .inr (8, px_mf (px_rf hh rf) iv))] : va_W) ++ px_np hh qq cN nv39) := px_soD rfl (by decide) env39 hD
  have hw := hw nv39 env39
  refine lv_aload_n hx hb px_d46_16 rfl (lv_at hl 0 rfl) ?_
  refine va_get (D := (dC, dI)) (ci := 8) (v := .ref (hh 195)) (C := "MatroidDeskModel") (T := px_T8) (N := 53) hx hb htw px_in8 hown hK hP 0 rfl rfl 3 (by decide) (htw _ px_w416) (fun _ h9 => h9) rfl px_d46_17 ?_
  refine lv_aload_n hx hb px_d46_20 rfl (lv_at hl 2 rfl) ?_
  obtain ⟨hk21, hw⟩ := hw
  have hPc : va_P (dC, dI) vwCl [(hh 195, .inr (9, [.ref (qq 195), .int ((nv39 195).1), .int ((nv39 195).2.1)])), (qq 195, .inl (cN, 160, .inl ((nv39 195).2.2))), (hh a2x, .inr (9, [.ref (qq a2x), .int ((nv39 a2x).1), .int ((nv39 a2x).2.1)])), (qq a2x, .inl (cN, 160, .inl ((nv39 a2x).2.2)))] H := px_outP hP [195, a2x] hk21
  have hDc : va_D A [(hh 195, .inr (9, [.ref (qq 195), .int ((nv39 195).1), .int ((nv39 195).2.1)])), (qq 195, .inl (cN, 160, .inl ((nv39 195).2.2))), (hh a2x, .inr (9, [.ref (qq a2x), .int ((nv39 a2x).1), .int ((nv39 a2x).2.1)])), (qq a2x, .inl (cN, 160, .inl ((nv39 a2x).2.2)))] := px_outD hD [195, a2x] hk21
  have hFc : ∀ q, va_A [(hh 195, .inr (9, [.ref (qq 195), .int ((nv39 195).1), .int ((nv39 195).2.1)])), (qq 195, .inl (cN, 160, .inl ((nv39 195).2.2))), (hh a2x, .inr (9, [.ref (qq a2x), .int ((nv39 a2x).1), .int ((nv39 a2x).2.1)])), (qq a2x, .inl (cN, 160, .inl ((nv39 a2x).2.2)))] H.size q → A q := px_outF hD hS hA [195, a2x] hk21
  have hKc := hK.sub (tys' := [(cN, .int), (cN, .int)]) [0, 0] rfl
  refine va_callv (va_runV (As := [.ref (hh a2x)]) (rest := []) ⟨hx, hb, hml, hown, htw⟩ (ncp_met l dC dI H.size (hh 195) (qq 195) (hh a2x) (qq a2x) cN cN ((nv39 195).1) ((nv39 195).2.1) ((nv39 195).2.2) ((nv39 a2x).1) ((nv39 a2x).2.1) ((nv39 a2x).2.2) _ hw) (cwV 1 htw (px_gv px_w414 px_w274 px_w275 px_w149 px_g10) rfl rfl rfl (by decide +kernel) ⟨Nat.le_of_ble_eq_true rfl, Nat.le_of_ble_eq_true rfl⟩) ⟨fun a U g mk q => by obtain ⟨q0, q1, qP, qK, qD, qN⟩ := q; exact ⟨q0, q1, qP, va_K.moved (u := U) (U := U.calling g mk a) (Vm.Alike.refl U.vm) qK, qD, qN.same rfl⟩, va_recv hK hPc (ci := 9) (q0 := 0) rfl rfl, fun U hU hW => ⟨rfl, by rw [hU], by rw [hU]; exact hPc, va_K.moved hW.alike hKc, hDc.weaken (fun _ _ _ _ => trivial), hN.warm hW⟩⟩ rfl rfl hl.1 rfl (lv_room (Nat.le_of_ble_eq_true rfl)) px_d46_21 ⟨(Nat.le_of_ble_eq_true rfl), (Nat.le_of_ble_eq_true rfl)⟩) hS (fun q _ h => hFc q h) hFc (fun u t H1 locs ht hvm hw hB hz1 hk1 hS => ?_)
  obtain ⟨v40, v41, v42, v43, v44, v45⟩ := u
  obtain ⟨hP1, hK1, hD1⟩ := hB
  rw [ht] at hP1
  obtain ⟨nv47, env47⟩ : ∃ z : Nat → px_NV, z = px_fold nv39 [(195, ⟨v40, v41, v42⟩), (a2x, ⟨v43, v44, v45⟩)] := ⟨_, rfl⟩
  have hw := hw nv47 env47
  obtain ⟨hP, hD⟩ := px_in hP hD [195, a2x] hk21 [(195, ⟨v40, v41, v42⟩), (a2x, ⟨v43, v44, v45⟩)] rfl hk1 hP1 env47
  generalize H1 = H at hP hS ⊢
  have hP : va_P (dC, dI) vwCl (([(h0, .inr (8, px_mf (px_rf hh rf) iv))] : va_W) ++ px_np hh qq cN nv47) H := hP
  have hD : va_D A (([(h0, .inr (8, px_mf (px_rf hh rf) iv))] : va_W) ++ px_np hh qq cN nv47) := hD
  refine lv_aload_n hx hb px_d46_24 rfl (lv_at hl 0 rfl) ?_
  refine va_get (D := (dC, dI)) (ci := 8) (v := .ref (hh 195)) (C := "MatroidDeskModel") (T := px_T8) (N := 53) hx hb htw px_in8 hown hK hP 0 rfl rfl 3 (by decide) (htw _ px_w416) (fun _ h9 => h9) rfl px_d46_25 ?_
  refine lv_iconst (v := 0) hx hb px_d46_28 (by decide) ?_
  obtain ⟨nv48, env48⟩ : ∃ z : Nat → px_NV, z = va_up nv47 195 ⟨(nv47 195).1, 0, (nv47 195).2.2⟩ := ⟨_, rfl⟩
  refine va_put (D := (dC, dI)) (ci := 9) (v := .int 0) (ty := .boolean) (C := "MatroidDeskModel$Num") (T := px_T9) (N := 3) hx hb htw px_in9 px_ty9 px_tyok9 px_nm9 hown hK hP hD hS (1 + 195) (px_go rfl (by decide)) rfl 2 (by decide) (htw _ px_w415) (fun _ h9 => h9) rfl (by decide +kernel) (by decide +kernel) (by decide +kernel) (Nat.le_of_ble_eq_true rfl) px_d46_29 (fun H locs hP hD hS => ?_)
  have hP : va_P (dC, dI) vwCl (([(h0, .inr (8, px_mf (px_rf hh rf) iv))] : va_W) ++ px_np hh qq cN nv48) H := px_soP rfl (by decide) env48 hP
  have hD : va_D A (([(h0, .inr (8, px_mf (px_rf hh rf) iv))] : va_W) ++ px_np hh qq cN nv48) := px_soD rfl (by decide) env48 hD
  have hw := hw nv48 env48
  obtain ⟨k9, hw⟩ := hw
  exact S32 k9 iv nv48 H locs ls hP hD hS (lv_sub hl [0, 1, 2] rfl) hw

/-! MatroidDeskModel.put(IIJ)V -/
def w49_L51 (post : (Nat → Int32) → (Nat → Int32) → (Nat → px_NV) → Prop) (x1 : Int32) (x2 : Int32) (x3 : Int64) (iv : Nat → Int32) (g_small : Nat → Int32) (nv : Nat → px_NV) : Prop := post iv g_small nv
def w49_wp (post : (Nat → Int32) → (Nat → Int32) → (Nat → px_NV) → Prop) (a1x : Int32) (a2x : Int32) (a3x : Int64) (iv : Nat → Int32) (g_small : Nat → Int32) (nv : Nat → px_NV) : Prop := (¬ (iv 12) = 0 → ¬ ((iv 12).toInt64) = 0 ∧ (¬ ((iv 12).toInt64) = 0 ∧ (∀ z1 : Int32, z1 = (((a3x - a3x / ((iv 12).toInt64) * ((iv 12).toInt64)) + ((iv 12).toInt64)) - ((a3x - a3x / ((iv 12).toInt64) * ((iv 12).toInt64)) + ((iv 12).toInt64)) / ((iv 12).toInt64) * ((iv 12).toInt64)).toInt32 → vp_in ((12 * a1x) + a2x) 156 ∧ (w49_L51 post a1x a2x a3x iv (upd g_small (Int32.toNatClampNeg ((12 * a1x) + a2x)) z1) nv)))) ∧ ((iv 12) = 0 → (w47_wp (fun k10_3 v2 => px_ix [k10_3] ∧ (nsm_wp (fun v4 v5 v6 => ∀ nv8 : Nat → px_NV, nv8 = px_fold nv [(k10_3, ⟨v4, v5, v6⟩)] → (w49_L51 post a1x a2x a3x v2 g_small nv8)) a3x ((nv k10_3).1) ((nv k10_3).2.1) ((nv k10_3).2.2))) a1x a2x iv))
set_option maxHeartbeats 8000000 in
set_option maxRecDepth 100000 in
theorem w49_met (l : Launch) (dC : Nat → ClassId) (dI : Nat → Nat → Nat) (sz : Nat) (h0 : Nat) (rf : Nat → Nat) (hh : Nat → Nat) (qq : Nat → Nat) (cN : ClassId) (c_work : ClassId) (c_small : ClassId) (a1x : Int32) (a2x : Int32) (a3x : Int64) (iv : Nat → Int32) (g_small : Nat → Int32) (nv : Nat → px_NV) (post : (Nat → Int32) → (Nat → Int32) → (Nat → px_NV) → Prop) (hw : w49_wp post a1x a2x a3x iv g_small nv) : Met l px_y49 px_s49 ({ frames := 2, cells := 0, slots := 0, locals := 44 }) (va_Pc [.ref h0, .int a1x, .int a2x, .long a3x] (fun U => U.heap.size = sz ∧ va_P (dC, dI) vwCl (([(h0, .inr (8, px_mf (px_rf hh rf) iv)), ((px_rf hh rf) 8, .inl (c_work, 156, .inr (.inr (.inr (.inr (fun k => some (hh k))))))), ((px_rf hh rf) 9, .inl (c_small, 156, .inl g_small))] : va_W) ++ px_np hh qq cN nv) U.heap ∧ va_K (dC, dI) vwCl [(c_work, .object "MatroidDeskModel$Num"), (c_small, .int), (cN, .int)] U ∧ va_D (fun _ => True) (([(h0, .inr (8, px_mf (px_rf hh rf) iv)), ((px_rf hh rf) 8, .inl (c_work, 156, .inr (.inr (.inr (.inr (fun k => some (hh k))))))), ((px_rf hh rf) 9, .inl (c_small, 156, .inl g_small))] : va_W) ++ px_np hh qq cN nv) ∧ px_N U)) (va_Qv (fun (u : (Nat → Int32) × (Nat → Int32) × (Nat → px_NV)) => post u.1 u.2.1 u.2.2) (fun (u : (Nat → Int32) × (Nat → Int32) × (Nat → px_NV)) (t : State) => va_P (dC, dI) vwCl (([(h0, .inr (8, px_mf (px_rf hh rf) u.1)), ((px_rf hh rf) 8, .inl (c_work, 156, .inr (.inr (.inr (.inr (fun k => some (hh k))))))), ((px_rf hh rf) 9, .inl (c_small, 156, .inl u.2.1))] : va_W) ++ px_np hh qq cN u.2.2) t.heap ∧ va_K (dC, dI) vwCl [(c_work, .object "MatroidDeskModel$Num"), (c_small, .int), (cN, .int)] t ∧ va_D (va_A (([(h0, .inr (8, px_mf (px_rf hh rf) iv)), ((px_rf hh rf) 8, .inl (c_work, 156, .inr (.inr (.inr (.inr (fun k => some (hh k))))))), ((px_rf hh rf) 9, .inl (c_small, 156, .inl g_small))] : va_W) ++ px_np hh qq cN nv) sz) (([(h0, .inr (8, px_mf (px_rf hh rf) u.1)), ((px_rf hh rf) 8, .inl (c_work, 156, .inr (.inr (.inr (.inr (fun k => some (hh k))))))), ((px_rf hh rf) 9, .inl (c_small, 156, .inl u.2.1))] : va_W) ++ px_np hh qq cN u.2.2)) (va_A (([(h0, .inr (8, px_mf (px_rf hh rf) iv)), ((px_rf hh rf) 8, .inl (c_work, 156, .inr (.inr (.inr (.inr (fun k => some (hh k))))))), ((px_rf hh rf) 9, .inl (c_small, 156, .inl g_small))] : va_W) ++ px_np hh qq cN nv) sz)) 0 0 (va_A (([(h0, .inr (8, px_mf (px_rf hh rf) iv)), ((px_rf hh rf) 8, .inl (c_work, 156, .inr (.inr (.inr (.inr (fun k => some (hh k))))))), ((px_rf hh rf) 9, .inl (c_small, 156, .inl g_small))] : va_W) ++ px_np hh qq cN nv) sz) := by
  refine Met.ofW (cc := prog_15_method_4_code) (maxL := 5) (ret := none) (by decide) rfl ?_
  intro p e s m args below meth c s₁ B hml hv
  obtain ⟨rfl, hsz, hP, hK, hD0, hN⟩ := hv
  have hx := B.exec
  have hb := B.bytes
  have hr := B.returns
  have htw : ∀ w ∈ px_all, w.before _ s = true := fun w h => atoms_spec (ws := px_s49) B.pre w (List.mem_cons_of_mem _ h)
  have hown : s.vm.findClass "MatroidDeskModel" = some m.cls := findClass_of_methodNamed B.named
  have hlocks := B.notSynchronized
  subst hsz
  have hD := hD0.self (sz := s.heap.size)
  generalize hAe : va_A (([(h0, .inr (8, px_mf (px_rf hh rf) iv)), ((px_rf hh rf) 8, .inl (c_work, 156, .inr (.inr (.inr (.inr (fun k => some (hh k))))))), ((px_rf hh rf) 9, .inl (c_small, 156, .inl g_small))] : va_W) ++ px_np hh qq cN nv) s.heap.size = A at hD ⊢
  have hA : ∀ q : Nat, s.heap.size ≤ q → A q := fun q h => by rw [← hAe]; exact Or.inr h
  have hS : va_S A s.heap s.heap [] := va_S.rf
  have hP : va_P (dC, dI) vwCl (([(h0, .inr (8, px_mf (px_rf hh rf) iv)), ((px_rf hh rf) 8, .inl (c_work, 156, .inr (.inr (.inr (.inr (fun k => some (hh k))))))), ((px_rf hh rf) 9, .inl (c_small, 156, .inl g_small))] : va_W) ++ px_np hh qq cN nv) s.heap := hP
  have hl := lv_entry ([.ref h0, .int a1x, .int a2x, .long a3x]) (n := 5) (Nat.le_of_ble_eq_true rfl)
  rw [lg_entry_eq]
  generalize (lg_sl ([.ref h0, .int a1x, .int a2x, .long a3x]) ++ List.replicate (5 - (lg_sl ([.ref h0, .int a1x, .int a2x, .long a3x])).length) Slot.unset).toArray = ls at hl ⊢
  have hl : lv_has ls 5 [(0, .ref h0), (1, .int a1x), (2, .int a2x), (3, .long a3x)] := hl
  generalize hQ : MQ _ _ _ _ _ _ _ = Q
  have S51 : ∀ (x1 : Int32) (x2 : Int32) (x3 : Int64) (iv : Nat → Int32) (g_small : Nat → Int32) (nv : Nat → px_NV) (H : Heap) (locs : List Loc) (ls : Array Slot), va_P (dC, dI) vwCl (([(h0, .inr (8, px_mf (px_rf hh rf) iv)), ((px_rf hh rf) 8, .inl (c_work, 156, .inr (.inr (.inr (.inr (fun k => some (hh k))))))), ((px_rf hh rf) 9, .inl (c_small, 156, .inl g_small))] : va_W) ++ px_np hh qq cN nv) H → va_D A (([(h0, .inr (8, px_mf (px_rf hh rf) iv)), ((px_rf hh rf) 8, .inl (c_work, 156, .inr (.inr (.inr (.inr (fun k => some (hh k))))))), ((px_rf hh rf) 9, .inl (c_small, 156, .inl g_small))] : va_W) ++ px_np hh qq cN nv) → va_S A s.heap H locs → lv_has ls 5 [(0, .ref h0), (1, .int x1), (2, .int x2), (3, .long x3)] → w49_L51 post x1 x2 x3 iv g_small nv → W p l e (headSpec px_s49 ({ frames := 2, cells := 0, slots := 0, locals := 44 })).room s m ([.ref h0, .int a1x, .int a2x, .long a3x]).toArray below meth c H locs 0 0 Q (F0 m 51 ls []) := by
    intro x1 x2 x3 iv g_small nv H locs ls hP hD hS hl hw
    unfold w49_L51 at hw
    rw [← hQ]
    exact W.vret hx hb hr (fun t ht hW => ⟨⟨(iv, g_small, nv), rfl, hw, by rw [ht]; exact hP, va_K.moved hW.alike hK, hD⟩, hS.F ht⟩) hS.2.2 px_d49_51
  unfold w49_wp at hw
  have hS0 := hS
  obtain ⟨H, hH9⟩ : ∃ z, z = s.heap := ⟨_, rfl⟩
  have hP : va_P (dC, dI) vwCl (([(h0, .inr (8, px_mf (px_rf hh rf) iv)), ((px_rf hh rf) 8, .inl (c_work, 156, .inr (.inr (.inr (.inr (fun k => some (hh k))))))), ((px_rf hh rf) 9, .inl (c_small, 156, .inl g_small))] : va_W) ++ px_np hh qq cN nv) H := by rw [hH9]; exact hP
  obtain ⟨locs, hlo9⟩ : ∃ z : List Loc, z = [] := ⟨_, rfl⟩
  have hS : va_S A s.heap H locs := by rw [hH9, hlo9]; exact hS
  suffices hG : W p l e (headSpec px_s49 ({ frames := 2, cells := 0, slots := 0, locals := 44 })).room s m ([.ref h0, .int a1x, .int a2x, .long a3x]).toArray below meth c H locs 0 0 Q (F0 m 0 ls []) by rw [hH9, hlo9] at hG; exact hG
  refine lv_aload_n hx hb px_d49_0 rfl (lv_at hl 0 rfl) ?_
  refine va_get (D := (dC, dI)) (ci := 8) (v := .int (iv 12)) (C := "MatroidDeskModel") (T := px_T8) (N := 53) hx hb htw px_in8 hown hK hP 0 rfl rfl 12 (by decide) (htw _ px_w428) (fun _ h9 => h9) rfl px_d49_1 ?_
  refine lv_if_ne (tgt := 20) hx hb px_d49_4 (by decide) (fun c4 => ?_) (fun c4 => ?_)
  · have hw := hw.1 c4
    refine lv_aload_n hx hb px_d49_20 rfl (lv_at hl 0 rfl) ?_
    refine va_get (D := (dC, dI)) (ci := 8) (v := .ref ((px_rf hh rf) 9)) (C := "MatroidDeskModel") (T := px_T8) (N := 53) hx hb htw px_in8 hown hK hP 0 rfl rfl 9 (by decide) (htw _ px_w436) (fun _ h9 => h9) rfl px_d49_21 ?_
    refine lv_bipush (v := 12) hx hb px_d49_24 (by decide) ?_
    refine lv_iload_n hx hb px_d49_26 rfl (lv_at hl 1 rfl) ?_
    refine lv_imul hx hb px_d49_27 ?_
    refine lv_iload_n hx hb px_d49_28 rfl (lv_at hl 2 rfl) ?_
    refine lv_iadd hx hb px_d49_29 ?_
    refine lv_lload_n hx hb px_d49_30 rfl (lv_at hl 3 rfl) ?_
    refine lv_aload_n hx hb px_d49_31 rfl (lv_at hl 0 rfl) ?_
    refine va_get (D := (dC, dI)) (ci := 8) (v := .int (iv 12)) (C := "MatroidDeskModel") (T := px_T8) (N := 53) hx hb htw px_in8 hown hK hP 0 rfl rfl 12 (by decide) (htw _ px_w428) (fun _ h9 => h9) rfl px_d49_32 ?_
    refine lv_i2l (v := (iv 12).toInt64) hx hb px_d49_35 rfl ?_
    obtain ⟨hd36, hw⟩ := hw
    refine lv_lrem hx hb px_d49_36 hd36 ?_
    refine lv_aload_n hx hb px_d49_37 rfl (lv_at hl 0 rfl) ?_
    refine va_get (D := (dC, dI)) (ci := 8) (v := .int (iv 12)) (C := "MatroidDeskModel") (T := px_T8) (N := 53) hx hb htw px_in8 hown hK hP 0 rfl rfl 12 (by decide) (htw _ px_w428) (fun _ h9 => h9) rfl px_d49_38 ?_
    refine lv_i2l (v := (iv 12).toInt64) hx hb px_d49_41 rfl ?_
    refine lv_ladd hx hb px_d49_42 ?_
    refine lv_aload_n hx hb px_d49_43 rfl (lv_at hl 0 rfl) ?_
    refine va_get (D := (dC, dI)) (ci := 8) (v := .int (iv 12)) (C := "MatroidDeskModel") (T := px_T8) (N := 53) hx hb htw px_in8 hown hK hP 0 rfl rfl 12 (by decide) (htw _ px_w428) (fun _ h9 => h9) rfl px_d49_44 ?_
    refine lv_i2l (v := (iv 12).toInt64) hx hb px_d49_47 rfl ?_
    obtain ⟨hd48, hw⟩ := hw
    refine lv_lrem hx hb px_d49_48 hd48 ?_
    refine lv_l2i (v := (((a3x - a3x / ((iv 12).toInt64) * ((iv 12).toInt64)) + ((iv 12).toInt64)) - ((a3x - a3x / ((iv 12).toInt64) * ((iv 12).toInt64)) + ((iv 12).toInt64)) / ((iv 12).toInt64) * ((iv 12).toInt64)).toInt32) hx hb px_d49_49 rfl ?_
    refine lv_topi (fun z1 ez1 => ?_)
    have hw := hw z1 ez1
    obtain ⟨hi50, hw⟩ := hw
    refine va_iast hx hb hK hP hD hS 2 1 rfl rfl hi50 px_d49_50 (fun H locs hP hD hS => ?_)
    have hP : va_P (dC, dI) vwCl (([(h0, .inr (8, px_mf (px_rf hh rf) iv)), ((px_rf hh rf) 8, .inl (c_work, 156, .inr (.inr (.inr (.inr (fun k => some (hh k))))))), ((px_rf hh rf) 9, .inl (c_small, 156, .inl (upd g_small (Int32.toNatClampNeg ((12 * a1x) + a2x)) z1)))] : va_W) ++ px_np hh qq cN nv) H := hP
    have hD : va_D A (([(h0, .inr (8, px_mf (px_rf hh rf) iv)), ((px_rf hh rf) 8, .inl (c_work, 156, .inr (.inr (.inr (.inr (fun k => some (hh k))))))), ((px_rf hh rf) 9, .inl (c_small, 156, .inl (upd g_small (Int32.toNatClampNeg ((12 * a1x) + a2x)) z1)))] : va_W) ++ px_np hh qq cN nv) := hD
    exact S51 a1x a2x a3x iv (upd g_small (Int32.toNatClampNeg ((12 * a1x) + a2x)) z1) nv H locs ls hP hD hS (lv_sub hl [0, 1, 2, 3] rfl) hw
  · have hw := hw.2 c4
    refine lv_aload_n hx hb px_d49_7 rfl (lv_at hl 0 rfl) ?_
    refine lv_iload_n hx hb px_d49_8 rfl (lv_at hl 1 rfl) ?_
    refine lv_iload_n hx hb px_d49_9 rfl (lv_at hl 2 rfl) ?_
    have hPc := hP.sub (ws' := [(h0, .inr (8, px_mf (px_rf hh rf) iv)), ((px_rf hh rf) 8, .inl (c_work, 156, .inr (.inr (.inr (.inr (fun k => some (hh k)))))))]) [0, 1] rfl
    have hDc := hD.sub (ws' := [(h0, .inr (8, px_mf (px_rf hh rf) iv)), ((px_rf hh rf) 8, .inl (c_work, 156, .inr (.inr (.inr (.inr (fun k => some (hh k)))))))]) [0, 1] (by decide) rfl
    have hFc := va_free (wc := [(h0, .inr (8, px_mf (px_rf hh rf) iv)), ((px_rf hh rf) 8, .inl (c_work, 156, .inr (.inr (.inr (.inr (fun k => some (hh k)))))))]) hD hS hA [0, 1] rfl
    have hKc := hK.sub (tys' := [(c_work, .object "MatroidDeskModel$Num")]) [0] rfl
    refine va_callq (va_runV (As := [.int a1x, .int a2x]) (rest := []) ⟨hx, hb, hml, hown, htw⟩ (w47_met l dC dI H.size h0 rf hh c_work a1x a2x iv _ hw) (cwV 2 htw (px_gv px_w434 px_w422 px_w423 px_w94 px_g47) rfl rfl rfl (by decide +kernel) ⟨Nat.le_of_ble_eq_true rfl, Nat.le_of_ble_eq_true rfl⟩) ⟨fun a U g mk q => by obtain ⟨q0, q1, qP, qK, qD, qN⟩ := q; exact ⟨q0, q1, qP, va_K.moved (u := U) (U := U.calling g mk a) (Vm.Alike.refl U.vm) qK, qD, qN.same rfl⟩, va_recv hK hP (ci := 8) (q0 := 0) rfl rfl, fun U hU hW => ⟨rfl, by rw [hU], by rw [hU]; exact hPc, va_K.moved hW.alike hKc, hDc.weaken (fun _ _ _ _ => trivial), hN.warm hW⟩⟩ rfl rfl hl.1 rfl (lv_room (Nat.le_of_ble_eq_true rfl)) px_d49_10 ⟨(Nat.le_of_ble_eq_true rfl), (Nat.le_of_ble_eq_true rfl)⟩) hS (fun q _ h => hFc q h) hFc (fun r9 u t H1 locs ht hvm hw hB hz1 hk1 hS => ?_)
    obtain ⟨k10_3, v2⟩ := u
    obtain ⟨hr9, hw⟩ := hw
    subst hr9
    obtain ⟨hP1, hK1, hD1⟩ := hB
    rw [ht] at hP1
    obtain ⟨hP, hD⟩ := va_joinQ (wr := [((px_rf hh rf) 9, .inl (c_small, 156, .inl g_small))]) (w1 := [(h0, .inr (8, px_mf (px_rf hh rf) v2)), ((px_rf hh rf) 8, .inl (c_work, 156, .inr (.inr (.inr (.inr (fun k => some (hh k)))))))]) hP hD [0, 1] [2] rfl rfl (by decide) (by decide) hk1 hFc hP1 hD1
    generalize H1 = H at hP hS ⊢
    have hP : va_P (dC, dI) vwCl (([((px_rf hh rf) 9, .inl (c_small, 156, .inl g_small)), (h0, .inr (8, px_mf (px_rf hh rf) v2)), ((px_rf hh rf) 8, .inl (c_work, 156, .inr (.inr (.inr (.inr (fun k => some (hh k)))))))] : va_W) ++ px_np hh qq cN nv) H := hP
    have hD : va_D A (([((px_rf hh rf) 9, .inl (c_small, 156, .inl g_small)), (h0, .inr (8, px_mf (px_rf hh rf) v2)), ((px_rf hh rf) 8, .inl (c_work, 156, .inr (.inr (.inr (.inr (fun k => some (hh k)))))))] : va_W) ++ px_np hh qq cN nv) := hD
    refine W.eq (g2 := F0 m 13 ls (.ref (hh k10_3) :: [])) rfl ?_
    have hP := hP.part (cx := [(h0, .inr (8, px_mf (px_rf hh rf) v2)), ((px_rf hh rf) 8, .inl (c_work, 156, .inr (.inr (.inr (.inr (fun k => some (hh k))))))), ((px_rf hh rf) 9, .inl (c_small, 156, .inl g_small))]) [1, 2, 0] rfl
    have hD := hD.part (cx := [(h0, .inr (8, px_mf (px_rf hh rf) v2)), ((px_rf hh rf) 8, .inl (c_work, 156, .inr (.inr (.inr (.inr (fun k => some (hh k))))))), ((px_rf hh rf) 9, .inl (c_small, 156, .inl g_small))]) [1, 2, 0] (by decide) rfl
    refine lv_lload_n hx hb px_d49_13 rfl (lv_at hl 3 rfl) ?_
    obtain ⟨hk14, hw⟩ := hw
    have hPc : va_P (dC, dI) vwCl [(hh k10_3, .inr (9, [.ref (qq k10_3), .int ((nv k10_3).1), .int ((nv k10_3).2.1)])), (qq k10_3, .inl (cN, 160, .inl ((nv k10_3).2.2)))] H := px_outP hP [k10_3] hk14
    have hDc : va_D A [(hh k10_3, .inr (9, [.ref (qq k10_3), .int ((nv k10_3).1), .int ((nv k10_3).2.1)])), (qq k10_3, .inl (cN, 160, .inl ((nv k10_3).2.2)))] := px_outD hD [k10_3] hk14
    have hFc : ∀ q, va_A [(hh k10_3, .inr (9, [.ref (qq k10_3), .int ((nv k10_3).1), .int ((nv k10_3).2.1)])), (qq k10_3, .inl (cN, 160, .inl ((nv k10_3).2.2)))] H.size q → A q := px_outF hD hS hA [k10_3] hk14
    have hKc := hK.sub (tys' := [(cN, .int)]) [2] rfl
    refine va_callv (va_runV (As := [.long a3x]) (rest := []) ⟨hx, hb, hml, hown, htw⟩ (nsm_met l dC dI H.size (hh k10_3) (qq k10_3) cN a3x ((nv k10_3).1) ((nv k10_3).2.1) ((nv k10_3).2.2) _ hw) (cwV 1 htw (px_gv px_w435 px_w277 px_w278 px_w149 px_g11) rfl rfl rfl (by decide +kernel) ⟨Nat.le_of_ble_eq_true rfl, Nat.le_of_ble_eq_true rfl⟩) ⟨fun a U g mk q => by obtain ⟨q0, q1, qP, qK, qD, qN⟩ := q; exact ⟨q0, q1, qP, va_K.moved (u := U) (U := U.calling g mk a) (Vm.Alike.refl U.vm) qK, qD, qN.same rfl⟩, va_recv hK hPc (ci := 9) (q0 := 0) rfl rfl, fun U hU hW => ⟨rfl, by rw [hU], by rw [hU]; exact hPc, va_K.moved hW.alike hKc, hDc.weaken (fun _ _ _ _ => trivial), hN.warm hW⟩⟩ rfl rfl hl.1 rfl (lv_room (Nat.le_of_ble_eq_true rfl)) px_d49_14 ⟨(Nat.le_of_ble_eq_true rfl), (Nat.le_of_ble_eq_true rfl)⟩) hS (fun q _ h => hFc q h) hFc (fun u t H1 locs ht hvm hw hB hz1 hk1 hS => ?_)
    obtain ⟨v4, v5, v6⟩ := u
    obtain ⟨hP1, hK1, hD1⟩ := hB
    rw [ht] at hP1
    obtain ⟨nv8, env8⟩ : ∃ z : Nat → px_NV, z = px_fold nv [(k10_3, ⟨v4, v5, v6⟩)] := ⟨_, rfl⟩
    have hw := hw nv8 env8
    obtain ⟨hP, hD⟩ := px_in hP hD [k10_3] hk14 [(k10_3, ⟨v4, v5, v6⟩)] rfl hk1 hP1 env8
    generalize H1 = H at hP hS ⊢
    have hP : va_P (dC, dI) vwCl (([(h0, .inr (8, px_mf (px_rf hh rf) v2)), ((px_rf hh rf) 8, .inl (c_work, 156, .inr (.inr (.inr (.inr (fun k => some (hh k))))))), ((px_rf hh rf) 9, .inl (c_small, 156, .inl g_small))] : va_W) ++ px_np hh qq cN nv8) H := hP
    have hD : va_D A (([(h0, .inr (8, px_mf (px_rf hh rf) v2)), ((px_rf hh rf) 8, .inl (c_work, 156, .inr (.inr (.inr (.inr (fun k => some (hh k))))))), ((px_rf hh rf) 9, .inl (c_small, 156, .inl g_small))] : va_W) ++ px_np hh qq cN nv8) := hD
    refine lv_goto (tgt := 51) hx hb px_d49_17 (by decide) ?_
    exact S51 a1x a2x a3x v2 g_small nv8 H locs ls hP hD hS (lv_sub hl [0, 1, 2, 3] rfl) hw

/-! MatroidDeskModel.isZero(II)Z -/
def w50_L46 (post : Int32 → (Nat → Int32) → (Nat → Int32) → (Nat → px_NV) → Prop) (x1 : Int32) (x2 : Int32) (y0 : Int32) (iv : Nat → Int32) (g_small : Nat → Int32) (nv : Nat → px_NV) : Prop := narrow .boolean (.int y0) = .int y0 ∧ post y0 iv g_small nv
def w50_wp (post : Int32 → (Nat → Int32) → (Nat → Int32) → (Nat → px_NV) → Prop) (a1x : Int32) (a2x : Int32) (iv : Nat → Int32) (g_small : Nat → Int32) (nv : Nat → px_NV) : Prop := (¬ (iv 12) = 0 → vp_in ((12 * a1x) + a2x) 156 ∧ ((¬ (g_small (Int32.toNatClampNeg ((12 * a1x) + a2x))) = 0 → w50_L46 post a1x a2x 0 iv g_small nv) ∧ ((g_small (Int32.toNatClampNeg ((12 * a1x) + a2x))) = 0 → w50_L46 post a1x a2x 1 iv g_small nv))) ∧ ((iv 12) = 0 → (w47_wp (fun k10_2 v1 => k10_2 < 200 ∧ ((¬ ((nv k10_2).1) = 0 → w50_L46 post a1x a2x 0 v1 g_small nv) ∧ (((nv k10_2).1) = 0 → w50_L46 post a1x a2x 1 v1 g_small nv))) a1x a2x iv))
set_option maxHeartbeats 8000000 in
set_option maxRecDepth 100000 in
theorem w50_met (l : Launch) (dC : Nat → ClassId) (dI : Nat → Nat → Nat) (sz : Nat) (h0 : Nat) (rf : Nat → Nat) (hh : Nat → Nat) (qq : Nat → Nat) (cN : ClassId) (c_work : ClassId) (c_small : ClassId) (a1x : Int32) (a2x : Int32) (iv : Nat → Int32) (g_small : Nat → Int32) (nv : Nat → px_NV) (post : Int32 → (Nat → Int32) → (Nat → Int32) → (Nat → px_NV) → Prop) (hw : w50_wp post a1x a2x iv g_small nv) : Met l px_y50 px_s50 ({ frames := 1, cells := 0, slots := 0, locals := 22 }) (va_Pc [.ref h0, .int a1x, .int a2x] (fun U => U.heap.size = sz ∧ va_P (dC, dI) vwCl (([(h0, .inr (8, px_mf (px_rf hh rf) iv)), ((px_rf hh rf) 8, .inl (c_work, 156, .inr (.inr (.inr (.inr (fun k => some (hh k))))))), ((px_rf hh rf) 9, .inl (c_small, 156, .inl g_small))] : va_W) ++ px_np hh qq cN nv) U.heap ∧ va_K (dC, dI) vwCl [(c_work, .object "MatroidDeskModel$Num"), (c_small, .int), (cN, .int)] U ∧ va_D (fun _ => True) (([(h0, .inr (8, px_mf (px_rf hh rf) iv)), ((px_rf hh rf) 8, .inl (c_work, 156, .inr (.inr (.inr (.inr (fun k => some (hh k))))))), ((px_rf hh rf) 9, .inl (c_small, 156, .inl g_small))] : va_W) ++ px_np hh qq cN nv) ∧ px_N U)) (va_Qi (fun (r : Int32) (u : (Nat → Int32) × (Nat → Int32) × (Nat → px_NV)) => post r u.1 u.2.1 u.2.2) (fun (u : (Nat → Int32) × (Nat → Int32) × (Nat → px_NV)) (t : State) => va_P (dC, dI) vwCl (([(h0, .inr (8, px_mf (px_rf hh rf) u.1)), ((px_rf hh rf) 8, .inl (c_work, 156, .inr (.inr (.inr (.inr (fun k => some (hh k))))))), ((px_rf hh rf) 9, .inl (c_small, 156, .inl u.2.1))] : va_W) ++ px_np hh qq cN u.2.2) t.heap ∧ va_K (dC, dI) vwCl [(c_work, .object "MatroidDeskModel$Num"), (c_small, .int), (cN, .int)] t ∧ va_D (va_A (([(h0, .inr (8, px_mf (px_rf hh rf) iv)), ((px_rf hh rf) 8, .inl (c_work, 156, .inr (.inr (.inr (.inr (fun k => some (hh k))))))), ((px_rf hh rf) 9, .inl (c_small, 156, .inl g_small))] : va_W) ++ px_np hh qq cN nv) sz) (([(h0, .inr (8, px_mf (px_rf hh rf) u.1)), ((px_rf hh rf) 8, .inl (c_work, 156, .inr (.inr (.inr (.inr (fun k => some (hh k))))))), ((px_rf hh rf) 9, .inl (c_small, 156, .inl u.2.1))] : va_W) ++ px_np hh qq cN u.2.2)) (va_A (([(h0, .inr (8, px_mf (px_rf hh rf) iv)), ((px_rf hh rf) 8, .inl (c_work, 156, .inr (.inr (.inr (.inr (fun k => some (hh k))))))), ((px_rf hh rf) 9, .inl (c_small, 156, .inl g_small))] : va_W) ++ px_np hh qq cN nv) sz)) 0 0 (va_A (([(h0, .inr (8, px_mf (px_rf hh rf) iv)), ((px_rf hh rf) 8, .inl (c_work, 156, .inr (.inr (.inr (.inr (fun k => some (hh k))))))), ((px_rf hh rf) 9, .inl (c_small, 156, .inl g_small))] : va_W) ++ px_np hh qq cN nv) sz) := by
  refine Met.ofW (cc := prog_15_method_5_code) (maxL := 3) (ret := (some .boolean)) (by decide) rfl ?_
  intro p e s m args below meth c s₁ B hml hv
  obtain ⟨rfl, hsz, hP, hK, hD0, hN⟩ := hv
  have hx := B.exec
  have hb := B.bytes
  have hr := B.returns
  have htw : ∀ w ∈ px_all, w.before _ s = true := fun w h => atoms_spec (ws := px_s50) B.pre w (List.mem_cons_of_mem _ h)
  have hown : s.vm.findClass "MatroidDeskModel" = some m.cls := findClass_of_methodNamed B.named
  have hlocks := B.notSynchronized
  subst hsz
  have hD := hD0.self (sz := s.heap.size)
  generalize hAe : va_A (([(h0, .inr (8, px_mf (px_rf hh rf) iv)), ((px_rf hh rf) 8, .inl (c_work, 156, .inr (.inr (.inr (.inr (fun k => some (hh k))))))), ((px_rf hh rf) 9, .inl (c_small, 156, .inl g_small))] : va_W) ++ px_np hh qq cN nv) s.heap.size = A at hD ⊢
  have hA : ∀ q : Nat, s.heap.size ≤ q → A q := fun q h => by rw [← hAe]; exact Or.inr h
  have hS : va_S A s.heap s.heap [] := va_S.rf
  have hP : va_P (dC, dI) vwCl (([(h0, .inr (8, px_mf (px_rf hh rf) iv)), ((px_rf hh rf) 8, .inl (c_work, 156, .inr (.inr (.inr (.inr (fun k => some (hh k))))))), ((px_rf hh rf) 9, .inl (c_small, 156, .inl g_small))] : va_W) ++ px_np hh qq cN nv) s.heap := hP
  have hl := lv_entry ([.ref h0, .int a1x, .int a2x]) (n := 3) (Nat.le_of_ble_eq_true rfl)
  rw [lg_entry_eq]
  generalize (lg_sl ([.ref h0, .int a1x, .int a2x]) ++ List.replicate (3 - (lg_sl ([.ref h0, .int a1x, .int a2x])).length) Slot.unset).toArray = ls at hl ⊢
  have hl : lv_has ls 3 [(0, .ref h0), (1, .int a1x), (2, .int a2x)] := hl
  generalize hQ : MQ _ _ _ _ _ _ _ = Q
  have S46 : ∀ (x1 : Int32) (x2 : Int32) (y0 : Int32) (iv : Nat → Int32) (g_small : Nat → Int32) (nv : Nat → px_NV) (H : Heap) (locs : List Loc) (ls : Array Slot), va_P (dC, dI) vwCl (([(h0, .inr (8, px_mf (px_rf hh rf) iv)), ((px_rf hh rf) 8, .inl (c_work, 156, .inr (.inr (.inr (.inr (fun k => some (hh k))))))), ((px_rf hh rf) 9, .inl (c_small, 156, .inl g_small))] : va_W) ++ px_np hh qq cN nv) H → va_D A (([(h0, .inr (8, px_mf (px_rf hh rf) iv)), ((px_rf hh rf) 8, .inl (c_work, 156, .inr (.inr (.inr (.inr (fun k => some (hh k))))))), ((px_rf hh rf) 9, .inl (c_small, 156, .inl g_small))] : va_W) ++ px_np hh qq cN nv) → va_S A s.heap H locs → lv_has ls 3 [(0, .ref h0), (1, .int x1), (2, .int x2)] → w50_L46 post x1 x2 y0 iv g_small nv → W p l e (headSpec px_s50 ({ frames := 1, cells := 0, slots := 0, locals := 22 })).room s m ([.ref h0, .int a1x, .int a2x]).toArray below meth c H locs 0 0 Q (F0 m 46 ls [.int y0]) := by
    intro x1 x2 y0 iv g_small nv H locs ls hP hD hS hl hw
    unfold w50_L46 at hw
    obtain ⟨hz9, hw⟩ := hw
    rw [← hQ]
    exact W.zret (v := y0) hx hb hr hz9 (fun t ht hW => ⟨⟨y0, (iv, g_small, nv), rfl, hw, by rw [ht]; exact hP, va_K.moved hW.alike hK, hD⟩, hS.F ht⟩) hS.2.2 px_d50_46
  unfold w50_wp at hw
  have hS0 := hS
  obtain ⟨H, hH9⟩ : ∃ z, z = s.heap := ⟨_, rfl⟩
  have hP : va_P (dC, dI) vwCl (([(h0, .inr (8, px_mf (px_rf hh rf) iv)), ((px_rf hh rf) 8, .inl (c_work, 156, .inr (.inr (.inr (.inr (fun k => some (hh k))))))), ((px_rf hh rf) 9, .inl (c_small, 156, .inl g_small))] : va_W) ++ px_np hh qq cN nv) H := by rw [hH9]; exact hP
  obtain ⟨locs, hlo9⟩ : ∃ z : List Loc, z = [] := ⟨_, rfl⟩
  have hS : va_S A s.heap H locs := by rw [hH9, hlo9]; exact hS
  suffices hG : W p l e (headSpec px_s50 ({ frames := 1, cells := 0, slots := 0, locals := 22 })).room s m ([.ref h0, .int a1x, .int a2x]).toArray below meth c H locs 0 0 Q (F0 m 0 ls []) by rw [hH9, hlo9] at hG; exact hG
  refine lv_aload_n hx hb px_d50_0 rfl (lv_at hl 0 rfl) ?_
  refine va_get (D := (dC, dI)) (ci := 8) (v := .int (iv 12)) (C := "MatroidDeskModel") (T := px_T8) (N := 53) hx hb htw px_in8 hown hK hP 0 rfl rfl 12 (by decide) (htw _ px_w428) (fun _ h9 => h9) rfl px_d50_1 ?_
  refine lv_if_ne (tgt := 27) hx hb px_d50_4 (by decide) (fun c4 => ?_) (fun c4 => ?_)
  · have hw := hw.1 c4
    refine lv_aload_n hx hb px_d50_27 rfl (lv_at hl 0 rfl) ?_
    refine va_get (D := (dC, dI)) (ci := 8) (v := .ref ((px_rf hh rf) 9)) (C := "MatroidDeskModel") (T := px_T8) (N := 53) hx hb htw px_in8 hown hK hP 0 rfl rfl 9 (by decide) (htw _ px_w436) (fun _ h9 => h9) rfl px_d50_28 ?_
    refine lv_bipush (v := 12) hx hb px_d50_31 (by decide) ?_
    refine lv_iload_n hx hb px_d50_33 rfl (lv_at hl 1 rfl) ?_
    refine lv_imul hx hb px_d50_34 ?_
    refine lv_iload_n hx hb px_d50_35 rfl (lv_at hl 2 rfl) ?_
    refine lv_iadd hx hb px_d50_36 ?_
    obtain ⟨hi37, hw⟩ := hw
    refine va_iald hx hb hK hP 2 1 rfl rfl hi37 px_d50_37 ?_
    refine lv_if_ne (tgt := 45) hx hb px_d50_38 (by decide) (fun c38 => ?_) (fun c38 => ?_)
    · have hw := hw.1 c38
      refine lv_iconst (v := 0) hx hb px_d50_45 (by decide) ?_
      exact S46 a1x a2x 0 iv g_small nv H locs ls hP hD hS (lv_sub hl [0, 1, 2] rfl) hw
    · have hw := hw.2 c38
      refine lv_iconst (v := 1) hx hb px_d50_41 (by decide) ?_
      refine lv_goto (tgt := 46) hx hb px_d50_42 (by decide) ?_
      exact S46 a1x a2x 1 iv g_small nv H locs ls hP hD hS (lv_sub hl [0, 1, 2] rfl) hw
  · have hw := hw.2 c4
    refine lv_aload_n hx hb px_d50_7 rfl (lv_at hl 0 rfl) ?_
    refine lv_iload_n hx hb px_d50_8 rfl (lv_at hl 1 rfl) ?_
    refine lv_iload_n hx hb px_d50_9 rfl (lv_at hl 2 rfl) ?_
    have hPc := hP.sub (ws' := [(h0, .inr (8, px_mf (px_rf hh rf) iv)), ((px_rf hh rf) 8, .inl (c_work, 156, .inr (.inr (.inr (.inr (fun k => some (hh k)))))))]) [0, 1] rfl
    have hDc := hD.sub (ws' := [(h0, .inr (8, px_mf (px_rf hh rf) iv)), ((px_rf hh rf) 8, .inl (c_work, 156, .inr (.inr (.inr (.inr (fun k => some (hh k)))))))]) [0, 1] (by decide) rfl
    have hFc := va_free (wc := [(h0, .inr (8, px_mf (px_rf hh rf) iv)), ((px_rf hh rf) 8, .inl (c_work, 156, .inr (.inr (.inr (.inr (fun k => some (hh k)))))))]) hD hS hA [0, 1] rfl
    have hKc := hK.sub (tys' := [(c_work, .object "MatroidDeskModel$Num")]) [0] rfl
    refine va_callq (va_runV (As := [.int a1x, .int a2x]) (rest := []) ⟨hx, hb, hml, hown, htw⟩ (w47_met l dC dI H.size h0 rf hh c_work a1x a2x iv _ hw) (cwV 2 htw (px_gv px_w434 px_w422 px_w423 px_w94 px_g47) rfl rfl rfl (by decide +kernel) ⟨Nat.le_of_ble_eq_true rfl, Nat.le_of_ble_eq_true rfl⟩) ⟨fun a U g mk q => by obtain ⟨q0, q1, qP, qK, qD, qN⟩ := q; exact ⟨q0, q1, qP, va_K.moved (u := U) (U := U.calling g mk a) (Vm.Alike.refl U.vm) qK, qD, qN.same rfl⟩, va_recv hK hP (ci := 8) (q0 := 0) rfl rfl, fun U hU hW => ⟨rfl, by rw [hU], by rw [hU]; exact hPc, va_K.moved hW.alike hKc, hDc.weaken (fun _ _ _ _ => trivial), hN.warm hW⟩⟩ rfl rfl hl.1 rfl (lv_room (Nat.le_of_ble_eq_true rfl)) px_d50_10 ⟨(Nat.le_of_ble_eq_true rfl), (Nat.le_of_ble_eq_true rfl)⟩) hS (fun q _ h => hFc q h) hFc (fun r9 u t H1 locs ht hvm hw hB hz1 hk1 hS => ?_)
    obtain ⟨k10_2, v1⟩ := u
    obtain ⟨hr9, hw⟩ := hw
    subst hr9
    obtain ⟨hP1, hK1, hD1⟩ := hB
    rw [ht] at hP1
    obtain ⟨hP, hD⟩ := va_joinQ (wr := [((px_rf hh rf) 9, .inl (c_small, 156, .inl g_small))]) (w1 := [(h0, .inr (8, px_mf (px_rf hh rf) v1)), ((px_rf hh rf) 8, .inl (c_work, 156, .inr (.inr (.inr (.inr (fun k => some (hh k)))))))]) hP hD [0, 1] [2] rfl rfl (by decide) (by decide) hk1 hFc hP1 hD1
    generalize H1 = H at hP hS ⊢
    have hP : va_P (dC, dI) vwCl (([((px_rf hh rf) 9, .inl (c_small, 156, .inl g_small)), (h0, .inr (8, px_mf (px_rf hh rf) v1)), ((px_rf hh rf) 8, .inl (c_work, 156, .inr (.inr (.inr (.inr (fun k => some (hh k)))))))] : va_W) ++ px_np hh qq cN nv) H := hP
    have hD : va_D A (([((px_rf hh rf) 9, .inl (c_small, 156, .inl g_small)), (h0, .inr (8, px_mf (px_rf hh rf) v1)), ((px_rf hh rf) 8, .inl (c_work, 156, .inr (.inr (.inr (.inr (fun k => some (hh k)))))))] : va_W) ++ px_np hh qq cN nv) := hD
    refine W.eq (g2 := F0 m 13 ls (.ref (hh k10_2) :: [])) rfl ?_
    have hP := hP.part (cx := [(h0, .inr (8, px_mf (px_rf hh rf) v1)), ((px_rf hh rf) 8, .inl (c_work, 156, .inr (.inr (.inr (.inr (fun k => some (hh k))))))), ((px_rf hh rf) 9, .inl (c_small, 156, .inl g_small))]) [1, 2, 0] rfl
    have hD := hD.part (cx := [(h0, .inr (8, px_mf (px_rf hh rf) v1)), ((px_rf hh rf) 8, .inl (c_work, 156, .inr (.inr (.inr (.inr (fun k => some (hh k))))))), ((px_rf hh rf) 9, .inl (c_small, 156, .inl g_small))]) [1, 2, 0] (by decide) rfl
    obtain ⟨hp13, hw⟩ := hw
    refine va_get (D := (dC, dI)) (ci := 9) (v := .int ((nv k10_2).1)) (C := "MatroidDeskModel$Num") (T := px_T9) (N := 3) hx hb htw px_in9 hown hK hP (3 + k10_2) (px_go rfl hp13) rfl 1 (by decide) (htw _ px_w417) (fun _ h9 => h9) rfl px_d50_13 ?_
    refine lv_if_ne (tgt := 23) hx hb px_d50_16 (by decide) (fun c16 => ?_) (fun c16 => ?_)
    · have hw := hw.1 c16
      refine lv_iconst (v := 0) hx hb px_d50_23 (by decide) ?_
      refine lv_goto (tgt := 46) hx hb px_d50_24 (by decide) ?_
      exact S46 a1x a2x 0 v1 g_small nv H locs ls hP hD hS (lv_sub hl [0, 1, 2] rfl) hw
    · have hw := hw.2 c16
      refine lv_iconst (v := 1) hx hb px_d50_19 (by decide) ?_
      refine lv_goto (tgt := 46) hx hb px_d50_20 (by decide) ?_
      exact S46 a1x a2x 1 v1 g_small nv H locs ls hP hD hS (lv_sub hl [0, 1, 2] rfl) hw

/-! MatroidDeskModel.swap(II)V -/
def w51_L110 (post : (Nat → Int32) → (Nat → Int32) → (Nat → px_NV) → Prop) (x1 : Int32) (x2 : Int32) (x3 : Int32) (iv : Nat → Int32) (g_small : Nat → Int32) (nv : Nat → px_NV) : Prop := post iv g_small nv
def w51_L2 (post : (Nat → Int32) → (Nat → Int32) → (Nat → px_NV) → Prop) : Nat → Int32 → Int32 → Int32 → (Nat → Int32) → (Nat → Int32) → (Nat → px_NV) → Prop
  | 0 => fun _ _ _ _ _ _ => False
  | k + 1 => fun x1 x2 x3 iv g_small nv => ((iv 11) ≤ x3 → w51_L110 post x1 x2 x3 iv g_small nv) ∧ (¬ (iv 11) ≤ x3 → (x1 = x2 → w51_L110 post x1 x2 x3 iv g_small nv) ∧ (¬ x1 = x2 → (w47_wp (fun k22_2 v1 => px_ix [192, k22_2] ∧ (ncp_wp (fun v3 v4 v5 v6 v7 v8 => ∀ nv10 : Nat → px_NV, nv10 = px_fold nv [(192, ⟨v3, v4, v5⟩), (k22_2, ⟨v6, v7, v8⟩)] → ((w47_wp (fun k31_12 v11 => (w47_wp (fun k37_14 v13 => px_ix [k31_12, k37_14] ∧ (ncp_wp (fun v15 v16 v17 v18 v19 v20 => ∀ nv22 : Nat → px_NV, nv22 = px_fold nv10 [(k31_12, ⟨v15, v16, v17⟩), (k37_14, ⟨v18, v19, v20⟩)] → ((w47_wp (fun k46_24 v23 => px_ix [k46_24, 192] ∧ (ncp_wp (fun v25 v26 v27 v28 v29 v30 => ∀ nv32 : Nat → px_NV, nv32 = px_fold nv22 [(k46_24, ⟨v25, v26, v27⟩), (192, ⟨v28, v29, v30⟩)] → (vp_in ((12 * x1) + x3) 156 ∧ (∀ z33 : Int32, z33 = g_small (Int32.toNatClampNeg ((12 * x1) + x3)) → vp_in ((12 * x2) + x3) 156 ∧ (∀ z34 : Int32, z34 = g_small (Int32.toNatClampNeg ((12 * x2) + x3)) → vp_in ((12 * x1) + x3) 156 ∧ (vp_in ((12 * x2) + x3) 156 ∧ (∀ z35 : Int32, z35 = x3 + 1 → (w51_L2 post k) x1 x2 z35 v23 (upd (upd g_small (Int32.toNatClampNeg ((12 * x1) + x3)) z34) (Int32.toNatClampNeg ((12 * x2) + x3)) z33) nv32)))))) ((nv22 k46_24).1) ((nv22 k46_24).2.1) ((nv22 k46_24).2.2) ((nv22 192).1) ((nv22 192).2.1) ((nv22 192).2.2))) x2 x3 v13))) ((nv10 k31_12).1) ((nv10 k31_12).2.1) ((nv10 k31_12).2.2) ((nv10 k37_14).1) ((nv10 k37_14).2.1) ((nv10 k37_14).2.2))) x2 x3 v11)) x1 x3 v1))) ((nv 192).1) ((nv 192).2.1) ((nv 192).2.2) ((nv k22_2).1) ((nv k22_2).2.1) ((nv k22_2).2.2))) x1 x3 iv)))
def w51_wp (post : (Nat → Int32) → (Nat → Int32) → (Nat → px_NV) → Prop) (a1x : Int32) (a2x : Int32) (iv : Nat → Int32) (g_small : Nat → Int32) (nv : Nat → px_NV) : Prop := ∃ j2, w51_L2 post j2 a1x a2x 0 iv g_small nv
set_option maxHeartbeats 8000000 in
set_option maxRecDepth 100000 in
theorem w51_met (l : Launch) (dC : Nat → ClassId) (dI : Nat → Nat → Nat) (sz : Nat) (h0 : Nat) (rf : Nat → Nat) (hh : Nat → Nat) (qq : Nat → Nat) (cN : ClassId) (c_work : ClassId) (c_small : ClassId) (a1x : Int32) (a2x : Int32) (iv : Nat → Int32) (g_small : Nat → Int32) (nv : Nat → px_NV) (post : (Nat → Int32) → (Nat → Int32) → (Nat → px_NV) → Prop) (hw : w51_wp post a1x a2x iv g_small nv) : Met l px_y51 px_s51 ({ frames := 1, cells := 0, slots := 0, locals := 22 }) (va_Pc [.ref h0, .int a1x, .int a2x] (fun U => U.heap.size = sz ∧ va_P (dC, dI) vwCl (([(h0, .inr (8, px_mf (px_rf hh rf) iv)), ((px_rf hh rf) 8, .inl (c_work, 156, .inr (.inr (.inr (.inr (fun k => some (hh k))))))), ((px_rf hh rf) 9, .inl (c_small, 156, .inl g_small))] : va_W) ++ px_np hh qq cN nv) U.heap ∧ va_K (dC, dI) vwCl [(c_work, .object "MatroidDeskModel$Num"), (c_small, .int), (cN, .int)] U ∧ va_D (fun _ => True) (([(h0, .inr (8, px_mf (px_rf hh rf) iv)), ((px_rf hh rf) 8, .inl (c_work, 156, .inr (.inr (.inr (.inr (fun k => some (hh k))))))), ((px_rf hh rf) 9, .inl (c_small, 156, .inl g_small))] : va_W) ++ px_np hh qq cN nv) ∧ px_N U)) (va_Qv (fun (u : (Nat → Int32) × (Nat → Int32) × (Nat → px_NV)) => post u.1 u.2.1 u.2.2) (fun (u : (Nat → Int32) × (Nat → Int32) × (Nat → px_NV)) (t : State) => va_P (dC, dI) vwCl (([(h0, .inr (8, px_mf (px_rf hh rf) u.1)), ((px_rf hh rf) 8, .inl (c_work, 156, .inr (.inr (.inr (.inr (fun k => some (hh k))))))), ((px_rf hh rf) 9, .inl (c_small, 156, .inl u.2.1))] : va_W) ++ px_np hh qq cN u.2.2) t.heap ∧ va_K (dC, dI) vwCl [(c_work, .object "MatroidDeskModel$Num"), (c_small, .int), (cN, .int)] t ∧ va_D (va_A (([(h0, .inr (8, px_mf (px_rf hh rf) iv)), ((px_rf hh rf) 8, .inl (c_work, 156, .inr (.inr (.inr (.inr (fun k => some (hh k))))))), ((px_rf hh rf) 9, .inl (c_small, 156, .inl g_small))] : va_W) ++ px_np hh qq cN nv) sz) (([(h0, .inr (8, px_mf (px_rf hh rf) u.1)), ((px_rf hh rf) 8, .inl (c_work, 156, .inr (.inr (.inr (.inr (fun k => some (hh k))))))), ((px_rf hh rf) 9, .inl (c_small, 156, .inl u.2.1))] : va_W) ++ px_np hh qq cN u.2.2)) (va_A (([(h0, .inr (8, px_mf (px_rf hh rf) iv)), ((px_rf hh rf) 8, .inl (c_work, 156, .inr (.inr (.inr (.inr (fun k => some (hh k))))))), ((px_rf hh rf) 9, .inl (c_small, 156, .inl g_small))] : va_W) ++ px_np hh qq cN nv) sz)) 0 0 (va_A (([(h0, .inr (8, px_mf (px_rf hh rf) iv)), ((px_rf hh rf) 8, .inl (c_work, 156, .inr (.inr (.inr (.inr (fun k => some (hh k))))))), ((px_rf hh rf) 9, .inl (c_small, 156, .inl g_small))] : va_W) ++ px_np hh qq cN nv) sz) := by
  refine Met.ofW (cc := prog_15_method_6_code) (maxL := 5) (ret := none) (by decide) rfl ?_
  intro p e s m args below meth c s₁ B hml hv
  obtain ⟨rfl, hsz, hP, hK, hD0, hN⟩ := hv
  have hx := B.exec
  have hb := B.bytes
  have hr := B.returns
  have htw : ∀ w ∈ px_all, w.before _ s = true := fun w h => atoms_spec (ws := px_s51) B.pre w (List.mem_cons_of_mem _ h)
  have hown : s.vm.findClass "MatroidDeskModel" = some m.cls := findClass_of_methodNamed B.named
  have hlocks := B.notSynchronized
  subst hsz
  have hD := hD0.self (sz := s.heap.size)
  generalize hAe : va_A (([(h0, .inr (8, px_mf (px_rf hh rf) iv)), ((px_rf hh rf) 8, .inl (c_work, 156, .inr (.inr (.inr (.inr (fun k => some (hh k))))))), ((px_rf hh rf) 9, .inl (c_small, 156, .inl g_small))] : va_W) ++ px_np hh qq cN nv) s.heap.size = A at hD ⊢
  have hA : ∀ q : Nat, s.heap.size ≤ q → A q := fun q h => by rw [← hAe]; exact Or.inr h
  have hS : va_S A s.heap s.heap [] := va_S.rf
  have hP : va_P (dC, dI) vwCl (([(h0, .inr (8, px_mf (px_rf hh rf) iv)), ((px_rf hh rf) 8, .inl (c_work, 156, .inr (.inr (.inr (.inr (fun k => some (hh k))))))), ((px_rf hh rf) 9, .inl (c_small, 156, .inl g_small))] : va_W) ++ px_np hh qq cN nv) s.heap := hP
  have hl := lv_entry ([.ref h0, .int a1x, .int a2x]) (n := 5) (Nat.le_of_ble_eq_true rfl)
  rw [lg_entry_eq]
  generalize (lg_sl ([.ref h0, .int a1x, .int a2x]) ++ List.replicate (5 - (lg_sl ([.ref h0, .int a1x, .int a2x])).length) Slot.unset).toArray = ls at hl ⊢
  have hl : lv_has ls 5 [(0, .ref h0), (1, .int a1x), (2, .int a2x)] := hl
  generalize hQ : MQ _ _ _ _ _ _ _ = Q
  have S110 : ∀ (x1 : Int32) (x2 : Int32) (x3 : Int32) (iv : Nat → Int32) (g_small : Nat → Int32) (nv : Nat → px_NV) (H : Heap) (locs : List Loc) (ls : Array Slot), va_P (dC, dI) vwCl (([(h0, .inr (8, px_mf (px_rf hh rf) iv)), ((px_rf hh rf) 8, .inl (c_work, 156, .inr (.inr (.inr (.inr (fun k => some (hh k))))))), ((px_rf hh rf) 9, .inl (c_small, 156, .inl g_small))] : va_W) ++ px_np hh qq cN nv) H → va_D A (([(h0, .inr (8, px_mf (px_rf hh rf) iv)), ((px_rf hh rf) 8, .inl (c_work, 156, .inr (.inr (.inr (.inr (fun k => some (hh k))))))), ((px_rf hh rf) 9, .inl (c_small, 156, .inl g_small))] : va_W) ++ px_np hh qq cN nv) → va_S A s.heap H locs → lv_has ls 5 [(0, .ref h0), (1, .int x1), (2, .int x2), (3, .int x3)] → w51_L110 post x1 x2 x3 iv g_small nv → W p l e (headSpec px_s51 ({ frames := 1, cells := 0, slots := 0, locals := 22 })).room s m ([.ref h0, .int a1x, .int a2x]).toArray below meth c H locs 0 0 Q (F0 m 110 ls []) := by
    intro x1 x2 x3 iv g_small nv H locs ls hP hD hS hl hw
    unfold w51_L110 at hw
    rw [← hQ]
    exact W.vret hx hb hr (fun t ht hW => ⟨⟨(iv, g_small, nv), rfl, hw, by rw [ht]; exact hP, va_K.moved hW.alike hK, hD⟩, hS.F ht⟩) hS.2.2 px_d51_110
  have S2 : ∀ (k2 : Nat) (x1 : Int32) (x2 : Int32) (x3 : Int32) (iv : Nat → Int32) (g_small : Nat → Int32) (nv : Nat → px_NV) (H : Heap) (locs : List Loc) (ls : Array Slot), va_P (dC, dI) vwCl (([(h0, .inr (8, px_mf (px_rf hh rf) iv)), ((px_rf hh rf) 8, .inl (c_work, 156, .inr (.inr (.inr (.inr (fun k => some (hh k))))))), ((px_rf hh rf) 9, .inl (c_small, 156, .inl g_small))] : va_W) ++ px_np hh qq cN nv) H → va_D A (([(h0, .inr (8, px_mf (px_rf hh rf) iv)), ((px_rf hh rf) 8, .inl (c_work, 156, .inr (.inr (.inr (.inr (fun k => some (hh k))))))), ((px_rf hh rf) 9, .inl (c_small, 156, .inl g_small))] : va_W) ++ px_np hh qq cN nv) → va_S A s.heap H locs → lv_has ls 5 [(0, .ref h0), (1, .int x1), (2, .int x2), (3, .int x3)] → w51_L2 post k2 x1 x2 x3 iv g_small nv → W p l e (headSpec px_s51 ({ frames := 1, cells := 0, slots := 0, locals := 22 })).room s m ([.ref h0, .int a1x, .int a2x]).toArray below meth c H locs 0 0 Q (F0 m 2 ls []) := by
    intro k2
    induction k2 with
    | zero => intro x1 x2 x3 iv g_small nv H locs ls hP hD hS hl hw; exact False.elim hw
    | succ k2 ih2 =>
      intro x1 x2 x3 iv g_small nv H locs ls hP hD hS hl hw
      unfold w51_L2 at hw
      refine lv_iload_n hx hb px_d51_2 rfl (lv_at hl 3 rfl) ?_
      refine lv_aload_n hx hb px_d51_3 rfl (lv_at hl 0 rfl) ?_
      refine va_get (D := (dC, dI)) (ci := 8) (v := .int (iv 11)) (C := "MatroidDeskModel") (T := px_T8) (N := 53) hx hb htw px_in8 hown hK hP 0 rfl rfl 11 (by decide) (htw _ px_w429) (fun _ h9 => h9) rfl px_d51_4 ?_
      refine lv_icmp_ge (tgt := 110) hx hb px_d51_7 (by decide) (fun c7 => ?_) (fun c7 => ?_)
      · have hw := hw.1 c7
        exact S110 x1 x2 x3 iv g_small nv H locs ls hP hD hS (lv_sub hl [0, 1, 2, 3] rfl) hw
      · have hw := hw.2 c7
        refine lv_iload_n hx hb px_d51_10 rfl (lv_at hl 1 rfl) ?_
        refine lv_iload_n hx hb px_d51_11 rfl (lv_at hl 2 rfl) ?_
        refine lv_icmp_eq (tgt := 110) hx hb px_d51_12 (by decide) (fun c12 => ?_) (fun c12 => ?_)
        · have hw := hw.1 c12
          exact S110 x1 x2 x3 iv g_small nv H locs ls hP hD hS (lv_sub hl [0, 1, 2, 3] rfl) hw
        · have hw := hw.2 c12
          refine lv_aload_n hx hb px_d51_15 rfl (lv_at hl 0 rfl) ?_
          refine va_get (D := (dC, dI)) (ci := 8) (v := .ref (hh 192)) (C := "MatroidDeskModel") (T := px_T8) (N := 53) hx hb htw px_in8 hown hK hP 0 rfl rfl 0 (by decide) (htw _ px_w443) (fun _ h9 => h9) rfl px_d51_16 ?_
          refine lv_aload_n hx hb px_d51_19 rfl (lv_at hl 0 rfl) ?_
          refine lv_iload_n hx hb px_d51_20 rfl (lv_at hl 1 rfl) ?_
          refine lv_iload_n hx hb px_d51_21 rfl (lv_at hl 3 rfl) ?_
          have hPc := hP.sub (ws' := [(h0, .inr (8, px_mf (px_rf hh rf) iv)), ((px_rf hh rf) 8, .inl (c_work, 156, .inr (.inr (.inr (.inr (fun k => some (hh k)))))))]) [0, 1] rfl
          have hDc := hD.sub (ws' := [(h0, .inr (8, px_mf (px_rf hh rf) iv)), ((px_rf hh rf) 8, .inl (c_work, 156, .inr (.inr (.inr (.inr (fun k => some (hh k)))))))]) [0, 1] (by decide) rfl
          have hFc := va_free (wc := [(h0, .inr (8, px_mf (px_rf hh rf) iv)), ((px_rf hh rf) 8, .inl (c_work, 156, .inr (.inr (.inr (.inr (fun k => some (hh k)))))))]) hD hS hA [0, 1] rfl
          have hKc := hK.sub (tys' := [(c_work, .object "MatroidDeskModel$Num")]) [0] rfl
          refine va_callq (va_runV (As := [.int x1, .int x3]) (rest := [.ref (hh 192)]) ⟨hx, hb, hml, hown, htw⟩ (w47_met l dC dI H.size h0 rf hh c_work x1 x3 iv _ hw) (cwV 2 htw (px_gv px_w434 px_w422 px_w423 px_w94 px_g47) rfl rfl rfl (by decide +kernel) ⟨Nat.le_of_ble_eq_true rfl, Nat.le_of_ble_eq_true rfl⟩) ⟨fun a U g mk q => by obtain ⟨q0, q1, qP, qK, qD, qN⟩ := q; exact ⟨q0, q1, qP, va_K.moved (u := U) (U := U.calling g mk a) (Vm.Alike.refl U.vm) qK, qD, qN.same rfl⟩, va_recv hK hP (ci := 8) (q0 := 0) rfl rfl, fun U hU hW => ⟨rfl, by rw [hU], by rw [hU]; exact hPc, va_K.moved hW.alike hKc, hDc.weaken (fun _ _ _ _ => trivial), hN.warm hW⟩⟩ rfl rfl hl.1 rfl (lv_room (Nat.le_of_ble_eq_true rfl)) px_d51_22 ⟨(Nat.le_of_ble_eq_true rfl), (Nat.le_of_ble_eq_true rfl)⟩) hS (fun q _ h => hFc q h) hFc (fun r9 u t H1 locs ht hvm hw hB hz1 hk1 hS => ?_)
          obtain ⟨k22_2, v1⟩ := u
          obtain ⟨hr9, hw⟩ := hw
          subst hr9
          obtain ⟨hP1, hK1, hD1⟩ := hB
          rw [ht] at hP1
          obtain ⟨hP, hD⟩ := va_joinQ (wr := [((px_rf hh rf) 9, .inl (c_small, 156, .inl g_small))]) (w1 := [(h0, .inr (8, px_mf (px_rf hh rf) v1)), ((px_rf hh rf) 8, .inl (c_work, 156, .inr (.inr (.inr (.inr (fun k => some (hh k)))))))]) hP hD [0, 1] [2] rfl rfl (by decide) (by decide) hk1 hFc hP1 hD1
          generalize H1 = H at hP hS ⊢
          have hP : va_P (dC, dI) vwCl (([((px_rf hh rf) 9, .inl (c_small, 156, .inl g_small)), (h0, .inr (8, px_mf (px_rf hh rf) v1)), ((px_rf hh rf) 8, .inl (c_work, 156, .inr (.inr (.inr (.inr (fun k => some (hh k)))))))] : va_W) ++ px_np hh qq cN nv) H := hP
          have hD : va_D A (([((px_rf hh rf) 9, .inl (c_small, 156, .inl g_small)), (h0, .inr (8, px_mf (px_rf hh rf) v1)), ((px_rf hh rf) 8, .inl (c_work, 156, .inr (.inr (.inr (.inr (fun k => some (hh k)))))))] : va_W) ++ px_np hh qq cN nv) := hD
          refine W.eq (g2 := F0 m 25 ls (.ref (hh k22_2) :: [.ref (hh 192)])) rfl ?_
          have hP := hP.part (cx := [(h0, .inr (8, px_mf (px_rf hh rf) v1)), ((px_rf hh rf) 8, .inl (c_work, 156, .inr (.inr (.inr (.inr (fun k => some (hh k))))))), ((px_rf hh rf) 9, .inl (c_small, 156, .inl g_small))]) [1, 2, 0] rfl
          have hD := hD.part (cx := [(h0, .inr (8, px_mf (px_rf hh rf) v1)), ((px_rf hh rf) 8, .inl (c_work, 156, .inr (.inr (.inr (.inr (fun k => some (hh k))))))), ((px_rf hh rf) 9, .inl (c_small, 156, .inl g_small))]) [1, 2, 0] (by decide) rfl
          obtain ⟨hk25, hw⟩ := hw
          have hPc : va_P (dC, dI) vwCl [(hh 192, .inr (9, [.ref (qq 192), .int ((nv 192).1), .int ((nv 192).2.1)])), (qq 192, .inl (cN, 160, .inl ((nv 192).2.2))), (hh k22_2, .inr (9, [.ref (qq k22_2), .int ((nv k22_2).1), .int ((nv k22_2).2.1)])), (qq k22_2, .inl (cN, 160, .inl ((nv k22_2).2.2)))] H := px_outP hP [192, k22_2] hk25
          have hDc : va_D A [(hh 192, .inr (9, [.ref (qq 192), .int ((nv 192).1), .int ((nv 192).2.1)])), (qq 192, .inl (cN, 160, .inl ((nv 192).2.2))), (hh k22_2, .inr (9, [.ref (qq k22_2), .int ((nv k22_2).1), .int ((nv k22_2).2.1)])), (qq k22_2, .inl (cN, 160, .inl ((nv k22_2).2.2)))] := px_outD hD [192, k22_2] hk25
          have hFc : ∀ q, va_A [(hh 192, .inr (9, [.ref (qq 192), .int ((nv 192).1), .int ((nv 192).2.1)])), (qq 192, .inl (cN, 160, .inl ((nv 192).2.2))), (hh k22_2, .inr (9, [.ref (qq k22_2), .int ((nv k22_2).1), .int ((nv k22_2).2.1)])), (qq k22_2, .inl (cN, 160, .inl ((nv k22_2).2.2)))] H.size q → A q := px_outF hD hS hA [192, k22_2] hk25
          have hKc := hK.sub (tys' := [(cN, .int), (cN, .int)]) [2, 2] rfl
          refine va_callv (va_runV (As := [.ref (hh k22_2)]) (rest := []) ⟨hx, hb, hml, hown, htw⟩ (ncp_met l dC dI H.size (hh 192) (qq 192) (hh k22_2) (qq k22_2) cN cN ((nv 192).1) ((nv 192).2.1) ((nv 192).2.2) ((nv k22_2).1) ((nv k22_2).2.1) ((nv k22_2).2.2) _ hw) (cwV 1 htw (px_gv px_w414 px_w274 px_w275 px_w149 px_g10) rfl rfl rfl (by decide +kernel) ⟨Nat.le_of_ble_eq_true rfl, Nat.le_of_ble_eq_true rfl⟩) ⟨fun a U g mk q => by obtain ⟨q0, q1, qP, qK, qD, qN⟩ := q; exact ⟨q0, q1, qP, va_K.moved (u := U) (U := U.calling g mk a) (Vm.Alike.refl U.vm) qK, qD, qN.same rfl⟩, va_recv hK hPc (ci := 9) (q0 := 0) rfl rfl, fun U hU hW => ⟨rfl, by rw [hU], by rw [hU]; exact hPc, va_K.moved hW.alike hKc, hDc.weaken (fun _ _ _ _ => trivial), hN.warm hW⟩⟩ rfl rfl hl.1 rfl (lv_room (Nat.le_of_ble_eq_true rfl)) px_d51_25 ⟨(Nat.le_of_ble_eq_true rfl), (Nat.le_of_ble_eq_true rfl)⟩) hS (fun q _ h => hFc q h) hFc (fun u t H1 locs ht hvm hw hB hz1 hk1 hS => ?_)
          obtain ⟨v3, v4, v5, v6, v7, v8⟩ := u
          obtain ⟨hP1, hK1, hD1⟩ := hB
          rw [ht] at hP1
          obtain ⟨nv10, env10⟩ : ∃ z : Nat → px_NV, z = px_fold nv [(192, ⟨v3, v4, v5⟩), (k22_2, ⟨v6, v7, v8⟩)] := ⟨_, rfl⟩
          have hw := hw nv10 env10
          obtain ⟨hP, hD⟩ := px_in hP hD [192, k22_2] hk25 [(192, ⟨v3, v4, v5⟩), (k22_2, ⟨v6, v7, v8⟩)] rfl hk1 hP1 env10
          generalize H1 = H at hP hS ⊢
          have hP : va_P (dC, dI) vwCl (([(h0, .inr (8, px_mf (px_rf hh rf) v1)), ((px_rf hh rf) 8, .inl (c_work, 156, .inr (.inr (.inr (.inr (fun k => some (hh k))))))), ((px_rf hh rf) 9, .inl (c_small, 156, .inl g_small))] : va_W) ++ px_np hh qq cN nv10) H := hP
          have hD : va_D A (([(h0, .inr (8, px_mf (px_rf hh rf) v1)), ((px_rf hh rf) 8, .inl (c_work, 156, .inr (.inr (.inr (.inr (fun k => some (hh k))))))), ((px_rf hh rf) 9, .inl (c_small, 156, .inl g_small))] : va_W) ++ px_np hh qq cN nv10) := hD
          refine lv_aload_n hx hb px_d51_28 rfl (lv_at hl 0 rfl) ?_
          refine lv_iload_n hx hb px_d51_29 rfl (lv_at hl 1 rfl) ?_
          refine lv_iload_n hx hb px_d51_30 rfl (lv_at hl 3 rfl) ?_
          have hPc := hP.sub (ws' := [(h0, .inr (8, px_mf (px_rf hh rf) v1)), ((px_rf hh rf) 8, .inl (c_work, 156, .inr (.inr (.inr (.inr (fun k => some (hh k)))))))]) [0, 1] rfl
          have hDc := hD.sub (ws' := [(h0, .inr (8, px_mf (px_rf hh rf) v1)), ((px_rf hh rf) 8, .inl (c_work, 156, .inr (.inr (.inr (.inr (fun k => some (hh k)))))))]) [0, 1] (by decide) rfl
          have hFc := va_free (wc := [(h0, .inr (8, px_mf (px_rf hh rf) v1)), ((px_rf hh rf) 8, .inl (c_work, 156, .inr (.inr (.inr (.inr (fun k => some (hh k)))))))]) hD hS hA [0, 1] rfl
          have hKc := hK.sub (tys' := [(c_work, .object "MatroidDeskModel$Num")]) [0] rfl
          refine va_callq (va_runV (As := [.int x1, .int x3]) (rest := []) ⟨hx, hb, hml, hown, htw⟩ (w47_met l dC dI H.size h0 rf hh c_work x1 x3 v1 _ hw) (cwV 2 htw (px_gv px_w434 px_w422 px_w423 px_w94 px_g47) rfl rfl rfl (by decide +kernel) ⟨Nat.le_of_ble_eq_true rfl, Nat.le_of_ble_eq_true rfl⟩) ⟨fun a U g mk q => by obtain ⟨q0, q1, qP, qK, qD, qN⟩ := q; exact ⟨q0, q1, qP, va_K.moved (u := U) (U := U.calling g mk a) (Vm.Alike.refl U.vm) qK, qD, qN.same rfl⟩, va_recv hK hP (ci := 8) (q0 := 0) rfl rfl, fun U hU hW => ⟨rfl, by rw [hU], by rw [hU]; exact hPc, va_K.moved hW.alike hKc, hDc.weaken (fun _ _ _ _ => trivial), hN.warm hW⟩⟩ rfl rfl hl.1 rfl (lv_room (Nat.le_of_ble_eq_true rfl)) px_d51_31 ⟨(Nat.le_of_ble_eq_true rfl), (Nat.le_of_ble_eq_true rfl)⟩) hS (fun q _ h => hFc q h) hFc (fun r9 u t H1 locs ht hvm hw hB hz1 hk1 hS => ?_)
          obtain ⟨k31_12, v11⟩ := u
          obtain ⟨hr9, hw⟩ := hw
          subst hr9
          obtain ⟨hP1, hK1, hD1⟩ := hB
          rw [ht] at hP1
          obtain ⟨hP, hD⟩ := va_joinQ (wr := [((px_rf hh rf) 9, .inl (c_small, 156, .inl g_small))]) (w1 := [(h0, .inr (8, px_mf (px_rf hh rf) v11)), ((px_rf hh rf) 8, .inl (c_work, 156, .inr (.inr (.inr (.inr (fun k => some (hh k)))))))]) hP hD [0, 1] [2] rfl rfl (by decide) (by decide) hk1 hFc hP1 hD1
          generalize H1 = H at hP hS ⊢
          have hP : va_P (dC, dI) vwCl (([((px_rf hh rf) 9, .inl (c_small, 156, .inl g_small)), (h0, .inr (8, px_mf (px_rf hh rf) v11)), ((px_rf hh rf) 8, .inl (c_work, 156, .inr (.inr (.inr (.inr (fun k => some (hh k)))))))] : va_W) ++ px_np hh qq cN nv10) H := hP
          have hD : va_D A (([((px_rf hh rf) 9, .inl (c_small, 156, .inl g_small)), (h0, .inr (8, px_mf (px_rf hh rf) v11)), ((px_rf hh rf) 8, .inl (c_work, 156, .inr (.inr (.inr (.inr (fun k => some (hh k)))))))] : va_W) ++ px_np hh qq cN nv10) := hD
          refine W.eq (g2 := F0 m 34 ls (.ref (hh k31_12) :: [])) rfl ?_
          have hP := hP.part (cx := [(h0, .inr (8, px_mf (px_rf hh rf) v11)), ((px_rf hh rf) 8, .inl (c_work, 156, .inr (.inr (.inr (.inr (fun k => some (hh k))))))), ((px_rf hh rf) 9, .inl (c_small, 156, .inl g_small))]) [1, 2, 0] rfl
          have hD := hD.part (cx := [(h0, .inr (8, px_mf (px_rf hh rf) v11)), ((px_rf hh rf) 8, .inl (c_work, 156, .inr (.inr (.inr (.inr (fun k => some (hh k))))))), ((px_rf hh rf) 9, .inl (c_small, 156, .inl g_small))]) [1, 2, 0] (by decide) rfl
          refine lv_aload_n hx hb px_d51_34 rfl (lv_at hl 0 rfl) ?_
          refine lv_iload_n hx hb px_d51_35 rfl (lv_at hl 2 rfl) ?_
          refine lv_iload_n hx hb px_d51_36 rfl (lv_at hl 3 rfl) ?_
          have hPc := hP.sub (ws' := [(h0, .inr (8, px_mf (px_rf hh rf) v11)), ((px_rf hh rf) 8, .inl (c_work, 156, .inr (.inr (.inr (.inr (fun k => some (hh k)))))))]) [0, 1] rfl
          have hDc := hD.sub (ws' := [(h0, .inr (8, px_mf (px_rf hh rf) v11)), ((px_rf hh rf) 8, .inl (c_work, 156, .inr (.inr (.inr (.inr (fun k => some (hh k)))))))]) [0, 1] (by decide) rfl
          have hFc := va_free (wc := [(h0, .inr (8, px_mf (px_rf hh rf) v11)), ((px_rf hh rf) 8, .inl (c_work, 156, .inr (.inr (.inr (.inr (fun k => some (hh k)))))))]) hD hS hA [0, 1] rfl
          have hKc := hK.sub (tys' := [(c_work, .object "MatroidDeskModel$Num")]) [0] rfl
          refine va_callq (va_runV (As := [.int x2, .int x3]) (rest := [.ref (hh k31_12)]) ⟨hx, hb, hml, hown, htw⟩ (w47_met l dC dI H.size h0 rf hh c_work x2 x3 v11 _ hw) (cwV 2 htw (px_gv px_w434 px_w422 px_w423 px_w94 px_g47) rfl rfl rfl (by decide +kernel) ⟨Nat.le_of_ble_eq_true rfl, Nat.le_of_ble_eq_true rfl⟩) ⟨fun a U g mk q => by obtain ⟨q0, q1, qP, qK, qD, qN⟩ := q; exact ⟨q0, q1, qP, va_K.moved (u := U) (U := U.calling g mk a) (Vm.Alike.refl U.vm) qK, qD, qN.same rfl⟩, va_recv hK hP (ci := 8) (q0 := 0) rfl rfl, fun U hU hW => ⟨rfl, by rw [hU], by rw [hU]; exact hPc, va_K.moved hW.alike hKc, hDc.weaken (fun _ _ _ _ => trivial), hN.warm hW⟩⟩ rfl rfl hl.1 rfl (lv_room (Nat.le_of_ble_eq_true rfl)) px_d51_37 ⟨(Nat.le_of_ble_eq_true rfl), (Nat.le_of_ble_eq_true rfl)⟩) hS (fun q _ h => hFc q h) hFc (fun r9 u t H1 locs ht hvm hw hB hz1 hk1 hS => ?_)
          obtain ⟨k37_14, v13⟩ := u
          obtain ⟨hr9, hw⟩ := hw
          subst hr9
          obtain ⟨hP1, hK1, hD1⟩ := hB
          rw [ht] at hP1
          obtain ⟨hP, hD⟩ := va_joinQ (wr := [((px_rf hh rf) 9, .inl (c_small, 156, .inl g_small))]) (w1 := [(h0, .inr (8, px_mf (px_rf hh rf) v13)), ((px_rf hh rf) 8, .inl (c_work, 156, .inr (.inr (.inr (.inr (fun k => some (hh k)))))))]) hP hD [0, 1] [2] rfl rfl (by decide) (by decide) hk1 hFc hP1 hD1
          generalize H1 = H at hP hS ⊢
          have hP : va_P (dC, dI) vwCl (([((px_rf hh rf) 9, .inl (c_small, 156, .inl g_small)), (h0, .inr (8, px_mf (px_rf hh rf) v13)), ((px_rf hh rf) 8, .inl (c_work, 156, .inr (.inr (.inr (.inr (fun k => some (hh k)))))))] : va_W) ++ px_np hh qq cN nv10) H := hP
          have hD : va_D A (([((px_rf hh rf) 9, .inl (c_small, 156, .inl g_small)), (h0, .inr (8, px_mf (px_rf hh rf) v13)), ((px_rf hh rf) 8, .inl (c_work, 156, .inr (.inr (.inr (.inr (fun k => some (hh k)))))))] : va_W) ++ px_np hh qq cN nv10) := hD
          refine W.eq (g2 := F0 m 40 ls (.ref (hh k37_14) :: [.ref (hh k31_12)])) rfl ?_
          have hP := hP.part (cx := [(h0, .inr (8, px_mf (px_rf hh rf) v13)), ((px_rf hh rf) 8, .inl (c_work, 156, .inr (.inr (.inr (.inr (fun k => some (hh k))))))), ((px_rf hh rf) 9, .inl (c_small, 156, .inl g_small))]) [1, 2, 0] rfl
          have hD := hD.part (cx := [(h0, .inr (8, px_mf (px_rf hh rf) v13)), ((px_rf hh rf) 8, .inl (c_work, 156, .inr (.inr (.inr (.inr (fun k => some (hh k))))))), ((px_rf hh rf) 9, .inl (c_small, 156, .inl g_small))]) [1, 2, 0] (by decide) rfl
          obtain ⟨hk40, hw⟩ := hw
          have hPc : va_P (dC, dI) vwCl [(hh k31_12, .inr (9, [.ref (qq k31_12), .int ((nv10 k31_12).1), .int ((nv10 k31_12).2.1)])), (qq k31_12, .inl (cN, 160, .inl ((nv10 k31_12).2.2))), (hh k37_14, .inr (9, [.ref (qq k37_14), .int ((nv10 k37_14).1), .int ((nv10 k37_14).2.1)])), (qq k37_14, .inl (cN, 160, .inl ((nv10 k37_14).2.2)))] H := px_outP hP [k31_12, k37_14] hk40
          have hDc : va_D A [(hh k31_12, .inr (9, [.ref (qq k31_12), .int ((nv10 k31_12).1), .int ((nv10 k31_12).2.1)])), (qq k31_12, .inl (cN, 160, .inl ((nv10 k31_12).2.2))), (hh k37_14, .inr (9, [.ref (qq k37_14), .int ((nv10 k37_14).1), .int ((nv10 k37_14).2.1)])), (qq k37_14, .inl (cN, 160, .inl ((nv10 k37_14).2.2)))] := px_outD hD [k31_12, k37_14] hk40
          have hFc : ∀ q, va_A [(hh k31_12, .inr (9, [.ref (qq k31_12), .int ((nv10 k31_12).1), .int ((nv10 k31_12).2.1)])), (qq k31_12, .inl (cN, 160, .inl ((nv10 k31_12).2.2))), (hh k37_14, .inr (9, [.ref (qq k37_14), .int ((nv10 k37_14).1), .int ((nv10 k37_14).2.1)])), (qq k37_14, .inl (cN, 160, .inl ((nv10 k37_14).2.2)))] H.size q → A q := px_outF hD hS hA [k31_12, k37_14] hk40
          have hKc := hK.sub (tys' := [(cN, .int), (cN, .int)]) [2, 2] rfl
          refine va_callv (va_runV (As := [.ref (hh k37_14)]) (rest := []) ⟨hx, hb, hml, hown, htw⟩ (ncp_met l dC dI H.size (hh k31_12) (qq k31_12) (hh k37_14) (qq k37_14) cN cN ((nv10 k31_12).1) ((nv10 k31_12).2.1) ((nv10 k31_12).2.2) ((nv10 k37_14).1) ((nv10 k37_14).2.1) ((nv10 k37_14).2.2) _ hw) (cwV 1 htw (px_gv px_w414 px_w274 px_w275 px_w149 px_g10) rfl rfl rfl (by decide +kernel) ⟨Nat.le_of_ble_eq_true rfl, Nat.le_of_ble_eq_true rfl⟩) ⟨fun a U g mk q => by obtain ⟨q0, q1, qP, qK, qD, qN⟩ := q; exact ⟨q0, q1, qP, va_K.moved (u := U) (U := U.calling g mk a) (Vm.Alike.refl U.vm) qK, qD, qN.same rfl⟩, va_recv hK hPc (ci := 9) (q0 := 0) rfl rfl, fun U hU hW => ⟨rfl, by rw [hU], by rw [hU]; exact hPc, va_K.moved hW.alike hKc, hDc.weaken (fun _ _ _ _ => trivial), hN.warm hW⟩⟩ rfl rfl hl.1 rfl (lv_room (Nat.le_of_ble_eq_true rfl)) px_d51_40 ⟨(Nat.le_of_ble_eq_true rfl), (Nat.le_of_ble_eq_true rfl)⟩) hS (fun q _ h => hFc q h) hFc (fun u t H1 locs ht hvm hw hB hz1 hk1 hS => ?_)
          obtain ⟨v15, v16, v17, v18, v19, v20⟩ := u
          obtain ⟨hP1, hK1, hD1⟩ := hB
          rw [ht] at hP1
          obtain ⟨nv22, env22⟩ : ∃ z : Nat → px_NV, z = px_fold nv10 [(k31_12, ⟨v15, v16, v17⟩), (k37_14, ⟨v18, v19, v20⟩)] := ⟨_, rfl⟩
          have hw := hw nv22 env22
          obtain ⟨hP, hD⟩ := px_in hP hD [k31_12, k37_14] hk40 [(k31_12, ⟨v15, v16, v17⟩), (k37_14, ⟨v18, v19, v20⟩)] rfl hk1 hP1 env22
          generalize H1 = H at hP hS ⊢
          have hP : va_P (dC, dI) vwCl (([(h0, .inr (8, px_mf (px_rf hh rf) v13)), ((px_rf hh rf) 8, .inl (c_work, 156, .inr (.inr (.inr (.inr (fun k => some (hh k))))))), ((px_rf hh rf) 9, .inl (c_small, 156, .inl g_small))] : va_W) ++ px_np hh qq cN nv22) H := hP
          have hD : va_D A (([(h0, .inr (8, px_mf (px_rf hh rf) v13)), ((px_rf hh rf) 8, .inl (c_work, 156, .inr (.inr (.inr (.inr (fun k => some (hh k))))))), ((px_rf hh rf) 9, .inl (c_small, 156, .inl g_small))] : va_W) ++ px_np hh qq cN nv22) := hD
          refine lv_aload_n hx hb px_d51_43 rfl (lv_at hl 0 rfl) ?_
          refine lv_iload_n hx hb px_d51_44 rfl (lv_at hl 2 rfl) ?_
          refine lv_iload_n hx hb px_d51_45 rfl (lv_at hl 3 rfl) ?_
          have hPc := hP.sub (ws' := [(h0, .inr (8, px_mf (px_rf hh rf) v13)), ((px_rf hh rf) 8, .inl (c_work, 156, .inr (.inr (.inr (.inr (fun k => some (hh k)))))))]) [0, 1] rfl
          have hDc := hD.sub (ws' := [(h0, .inr (8, px_mf (px_rf hh rf) v13)), ((px_rf hh rf) 8, .inl (c_work, 156, .inr (.inr (.inr (.inr (fun k => some (hh k)))))))]) [0, 1] (by decide) rfl
          have hFc := va_free (wc := [(h0, .inr (8, px_mf (px_rf hh rf) v13)), ((px_rf hh rf) 8, .inl (c_work, 156, .inr (.inr (.inr (.inr (fun k => some (hh k)))))))]) hD hS hA [0, 1] rfl
          have hKc := hK.sub (tys' := [(c_work, .object "MatroidDeskModel$Num")]) [0] rfl
          refine va_callq (va_runV (As := [.int x2, .int x3]) (rest := []) ⟨hx, hb, hml, hown, htw⟩ (w47_met l dC dI H.size h0 rf hh c_work x2 x3 v13 _ hw) (cwV 2 htw (px_gv px_w434 px_w422 px_w423 px_w94 px_g47) rfl rfl rfl (by decide +kernel) ⟨Nat.le_of_ble_eq_true rfl, Nat.le_of_ble_eq_true rfl⟩) ⟨fun a U g mk q => by obtain ⟨q0, q1, qP, qK, qD, qN⟩ := q; exact ⟨q0, q1, qP, va_K.moved (u := U) (U := U.calling g mk a) (Vm.Alike.refl U.vm) qK, qD, qN.same rfl⟩, va_recv hK hP (ci := 8) (q0 := 0) rfl rfl, fun U hU hW => ⟨rfl, by rw [hU], by rw [hU]; exact hPc, va_K.moved hW.alike hKc, hDc.weaken (fun _ _ _ _ => trivial), hN.warm hW⟩⟩ rfl rfl hl.1 rfl (lv_room (Nat.le_of_ble_eq_true rfl)) px_d51_46 ⟨(Nat.le_of_ble_eq_true rfl), (Nat.le_of_ble_eq_true rfl)⟩) hS (fun q _ h => hFc q h) hFc (fun r9 u t H1 locs ht hvm hw hB hz1 hk1 hS => ?_)
          obtain ⟨k46_24, v23⟩ := u
          obtain ⟨hr9, hw⟩ := hw
          subst hr9
          obtain ⟨hP1, hK1, hD1⟩ := hB
          rw [ht] at hP1
          obtain ⟨hP, hD⟩ := va_joinQ (wr := [((px_rf hh rf) 9, .inl (c_small, 156, .inl g_small))]) (w1 := [(h0, .inr (8, px_mf (px_rf hh rf) v23)), ((px_rf hh rf) 8, .inl (c_work, 156, .inr (.inr (.inr (.inr (fun k => some (hh k)))))))]) hP hD [0, 1] [2] rfl rfl (by decide) (by decide) hk1 hFc hP1 hD1
          generalize H1 = H at hP hS ⊢
          have hP : va_P (dC, dI) vwCl (([((px_rf hh rf) 9, .inl (c_small, 156, .inl g_small)), (h0, .inr (8, px_mf (px_rf hh rf) v23)), ((px_rf hh rf) 8, .inl (c_work, 156, .inr (.inr (.inr (.inr (fun k => some (hh k)))))))] : va_W) ++ px_np hh qq cN nv22) H := hP
          have hD : va_D A (([((px_rf hh rf) 9, .inl (c_small, 156, .inl g_small)), (h0, .inr (8, px_mf (px_rf hh rf) v23)), ((px_rf hh rf) 8, .inl (c_work, 156, .inr (.inr (.inr (.inr (fun k => some (hh k)))))))] : va_W) ++ px_np hh qq cN nv22) := hD
          refine W.eq (g2 := F0 m 49 ls (.ref (hh k46_24) :: [])) rfl ?_
          have hP := hP.part (cx := [(h0, .inr (8, px_mf (px_rf hh rf) v23)), ((px_rf hh rf) 8, .inl (c_work, 156, .inr (.inr (.inr (.inr (fun k => some (hh k))))))), ((px_rf hh rf) 9, .inl (c_small, 156, .inl g_small))]) [1, 2, 0] rfl
          have hD := hD.part (cx := [(h0, .inr (8, px_mf (px_rf hh rf) v23)), ((px_rf hh rf) 8, .inl (c_work, 156, .inr (.inr (.inr (.inr (fun k => some (hh k))))))), ((px_rf hh rf) 9, .inl (c_small, 156, .inl g_small))]) [1, 2, 0] (by decide) rfl
          refine lv_aload_n hx hb px_d51_49 rfl (lv_at hl 0 rfl) ?_
          refine va_get (D := (dC, dI)) (ci := 8) (v := .ref (hh 192)) (C := "MatroidDeskModel") (T := px_T8) (N := 53) hx hb htw px_in8 hown hK hP 0 rfl rfl 0 (by decide) (htw _ px_w443) (fun _ h9 => h9) rfl px_d51_50 ?_
          obtain ⟨hk53, hw⟩ := hw
          have hPc : va_P (dC, dI) vwCl [(hh k46_24, .inr (9, [.ref (qq k46_24), .int ((nv22 k46_24).1), .int ((nv22 k46_24).2.1)])), (qq k46_24, .inl (cN, 160, .inl ((nv22 k46_24).2.2))), (hh 192, .inr (9, [.ref (qq 192), .int ((nv22 192).1), .int ((nv22 192).2.1)])), (qq 192, .inl (cN, 160, .inl ((nv22 192).2.2)))] H := px_outP hP [k46_24, 192] hk53
          have hDc : va_D A [(hh k46_24, .inr (9, [.ref (qq k46_24), .int ((nv22 k46_24).1), .int ((nv22 k46_24).2.1)])), (qq k46_24, .inl (cN, 160, .inl ((nv22 k46_24).2.2))), (hh 192, .inr (9, [.ref (qq 192), .int ((nv22 192).1), .int ((nv22 192).2.1)])), (qq 192, .inl (cN, 160, .inl ((nv22 192).2.2)))] := px_outD hD [k46_24, 192] hk53
          have hFc : ∀ q, va_A [(hh k46_24, .inr (9, [.ref (qq k46_24), .int ((nv22 k46_24).1), .int ((nv22 k46_24).2.1)])), (qq k46_24, .inl (cN, 160, .inl ((nv22 k46_24).2.2))), (hh 192, .inr (9, [.ref (qq 192), .int ((nv22 192).1), .int ((nv22 192).2.1)])), (qq 192, .inl (cN, 160, .inl ((nv22 192).2.2)))] H.size q → A q := px_outF hD hS hA [k46_24, 192] hk53
          have hKc := hK.sub (tys' := [(cN, .int), (cN, .int)]) [2, 2] rfl
          refine va_callv (va_runV (As := [.ref (hh 192)]) (rest := []) ⟨hx, hb, hml, hown, htw⟩ (ncp_met l dC dI H.size (hh k46_24) (qq k46_24) (hh 192) (qq 192) cN cN ((nv22 k46_24).1) ((nv22 k46_24).2.1) ((nv22 k46_24).2.2) ((nv22 192).1) ((nv22 192).2.1) ((nv22 192).2.2) _ hw) (cwV 1 htw (px_gv px_w414 px_w274 px_w275 px_w149 px_g10) rfl rfl rfl (by decide +kernel) ⟨Nat.le_of_ble_eq_true rfl, Nat.le_of_ble_eq_true rfl⟩) ⟨fun a U g mk q => by obtain ⟨q0, q1, qP, qK, qD, qN⟩ := q; exact ⟨q0, q1, qP, va_K.moved (u := U) (U := U.calling g mk a) (Vm.Alike.refl U.vm) qK, qD, qN.same rfl⟩, va_recv hK hPc (ci := 9) (q0 := 0) rfl rfl, fun U hU hW => ⟨rfl, by rw [hU], by rw [hU]; exact hPc, va_K.moved hW.alike hKc, hDc.weaken (fun _ _ _ _ => trivial), hN.warm hW⟩⟩ rfl rfl hl.1 rfl (lv_room (Nat.le_of_ble_eq_true rfl)) px_d51_53 ⟨(Nat.le_of_ble_eq_true rfl), (Nat.le_of_ble_eq_true rfl)⟩) hS (fun q _ h => hFc q h) hFc (fun u t H1 locs ht hvm hw hB hz1 hk1 hS => ?_)
          obtain ⟨v25, v26, v27, v28, v29, v30⟩ := u
          obtain ⟨hP1, hK1, hD1⟩ := hB
          rw [ht] at hP1
          obtain ⟨nv32, env32⟩ : ∃ z : Nat → px_NV, z = px_fold nv22 [(k46_24, ⟨v25, v26, v27⟩), (192, ⟨v28, v29, v30⟩)] := ⟨_, rfl⟩
          have hw := hw nv32 env32
          obtain ⟨hP, hD⟩ := px_in hP hD [k46_24, 192] hk53 [(k46_24, ⟨v25, v26, v27⟩), (192, ⟨v28, v29, v30⟩)] rfl hk1 hP1 env32
          generalize H1 = H at hP hS ⊢
          have hP : va_P (dC, dI) vwCl (([(h0, .inr (8, px_mf (px_rf hh rf) v23)), ((px_rf hh rf) 8, .inl (c_work, 156, .inr (.inr (.inr (.inr (fun k => some (hh k))))))), ((px_rf hh rf) 9, .inl (c_small, 156, .inl g_small))] : va_W) ++ px_np hh qq cN nv32) H := hP
          have hD : va_D A (([(h0, .inr (8, px_mf (px_rf hh rf) v23)), ((px_rf hh rf) 8, .inl (c_work, 156, .inr (.inr (.inr (.inr (fun k => some (hh k))))))), ((px_rf hh rf) 9, .inl (c_small, 156, .inl g_small))] : va_W) ++ px_np hh qq cN nv32) := hD
          refine lv_aload_n hx hb px_d51_56 rfl (lv_at hl 0 rfl) ?_
          refine va_get (D := (dC, dI)) (ci := 8) (v := .ref ((px_rf hh rf) 9)) (C := "MatroidDeskModel") (T := px_T8) (N := 53) hx hb htw px_in8 hown hK hP 0 rfl rfl 9 (by decide) (htw _ px_w436) (fun _ h9 => h9) rfl px_d51_57 ?_
          refine lv_bipush (v := 12) hx hb px_d51_60 (by decide) ?_
          refine lv_iload_n hx hb px_d51_62 rfl (lv_at hl 1 rfl) ?_
          refine lv_imul hx hb px_d51_63 ?_
          refine lv_iload_n hx hb px_d51_64 rfl (lv_at hl 3 rfl) ?_
          refine lv_iadd hx hb px_d51_65 ?_
          obtain ⟨hi66, hw⟩ := hw
          refine va_iald hx hb hK hP 2 1 rfl rfl hi66 px_d51_66 ?_
          refine lv_topi (fun z33 ez33 => ?_)
          have hw := hw z33 ez33
          refine lv_istore (lv' := [(4, .int z33), (0, .ref h0), (1, .int x1), (2, .int x2), (3, .int x3)]) hx hb px_d51_67 hl (by decide) rfl (fun ls hl => ?_)
          refine lv_aload_n hx hb px_d51_69 rfl (lv_at hl 1 rfl) ?_
          refine va_get (D := (dC, dI)) (ci := 8) (v := .ref ((px_rf hh rf) 9)) (C := "MatroidDeskModel") (T := px_T8) (N := 53) hx hb htw px_in8 hown hK hP 0 rfl rfl 9 (by decide) (htw _ px_w436) (fun _ h9 => h9) rfl px_d51_70 ?_
          refine lv_bipush (v := 12) hx hb px_d51_73 (by decide) ?_
          refine lv_iload_n hx hb px_d51_75 rfl (lv_at hl 2 rfl) ?_
          refine lv_imul hx hb px_d51_76 ?_
          refine lv_iload_n hx hb px_d51_77 rfl (lv_at hl 4 rfl) ?_
          refine lv_iadd hx hb px_d51_78 ?_
          refine lv_aload_n hx hb px_d51_79 rfl (lv_at hl 1 rfl) ?_
          refine va_get (D := (dC, dI)) (ci := 8) (v := .ref ((px_rf hh rf) 9)) (C := "MatroidDeskModel") (T := px_T8) (N := 53) hx hb htw px_in8 hown hK hP 0 rfl rfl 9 (by decide) (htw _ px_w436) (fun _ h9 => h9) rfl px_d51_80 ?_
          refine lv_bipush (v := 12) hx hb px_d51_83 (by decide) ?_
          refine lv_iload_n hx hb px_d51_85 rfl (lv_at hl 3 rfl) ?_
          refine lv_imul hx hb px_d51_86 ?_
          refine lv_iload_n hx hb px_d51_87 rfl (lv_at hl 4 rfl) ?_
          refine lv_iadd hx hb px_d51_88 ?_
          obtain ⟨hi89, hw⟩ := hw
          refine va_iald hx hb hK hP 2 1 rfl rfl hi89 px_d51_89 ?_
          refine lv_topi (fun z34 ez34 => ?_)
          have hw := hw z34 ez34
          obtain ⟨hi90, hw⟩ := hw
          refine va_iast hx hb hK hP hD hS 2 1 rfl rfl hi90 px_d51_90 (fun H locs hP hD hS => ?_)
          have hP : va_P (dC, dI) vwCl (([(h0, .inr (8, px_mf (px_rf hh rf) v23)), ((px_rf hh rf) 8, .inl (c_work, 156, .inr (.inr (.inr (.inr (fun k => some (hh k))))))), ((px_rf hh rf) 9, .inl (c_small, 156, .inl (upd g_small (Int32.toNatClampNeg ((12 * x1) + x3)) z34)))] : va_W) ++ px_np hh qq cN nv32) H := hP
          have hD : va_D A (([(h0, .inr (8, px_mf (px_rf hh rf) v23)), ((px_rf hh rf) 8, .inl (c_work, 156, .inr (.inr (.inr (.inr (fun k => some (hh k))))))), ((px_rf hh rf) 9, .inl (c_small, 156, .inl (upd g_small (Int32.toNatClampNeg ((12 * x1) + x3)) z34)))] : va_W) ++ px_np hh qq cN nv32) := hD
          refine lv_aload_n hx hb px_d51_91 rfl (lv_at hl 1 rfl) ?_
          refine va_get (D := (dC, dI)) (ci := 8) (v := .ref ((px_rf hh rf) 9)) (C := "MatroidDeskModel") (T := px_T8) (N := 53) hx hb htw px_in8 hown hK hP 0 rfl rfl 9 (by decide) (htw _ px_w436) (fun _ h9 => h9) rfl px_d51_92 ?_
          refine lv_bipush (v := 12) hx hb px_d51_95 (by decide) ?_
          refine lv_iload_n hx hb px_d51_97 rfl (lv_at hl 3 rfl) ?_
          refine lv_imul hx hb px_d51_98 ?_
          refine lv_iload_n hx hb px_d51_99 rfl (lv_at hl 4 rfl) ?_
          refine lv_iadd hx hb px_d51_100 ?_
          refine lv_iload hx hb px_d51_101 (lv_at hl 0 rfl) ?_
          obtain ⟨hi103, hw⟩ := hw
          refine va_iast hx hb hK hP hD hS 2 1 rfl rfl hi103 px_d51_103 (fun H locs hP hD hS => ?_)
          have hP : va_P (dC, dI) vwCl (([(h0, .inr (8, px_mf (px_rf hh rf) v23)), ((px_rf hh rf) 8, .inl (c_work, 156, .inr (.inr (.inr (.inr (fun k => some (hh k))))))), ((px_rf hh rf) 9, .inl (c_small, 156, .inl (upd (upd g_small (Int32.toNatClampNeg ((12 * x1) + x3)) z34) (Int32.toNatClampNeg ((12 * x2) + x3)) z33)))] : va_W) ++ px_np hh qq cN nv32) H := hP
          have hD : va_D A (([(h0, .inr (8, px_mf (px_rf hh rf) v23)), ((px_rf hh rf) 8, .inl (c_work, 156, .inr (.inr (.inr (.inr (fun k => some (hh k))))))), ((px_rf hh rf) 9, .inl (c_small, 156, .inl (upd (upd g_small (Int32.toNatClampNeg ((12 * x1) + x3)) z34) (Int32.toNatClampNeg ((12 * x2) + x3)) z33)))] : va_W) ++ px_np hh qq cN nv32) := hD
          obtain ⟨z35, ez35⟩ : ∃ y : Int32, y = x3 + 1 := ⟨_, rfl⟩
          have hw := hw z35 ez35
          refine lv_iinc (v := z35) (lv' := [(3, .int z35), (4, .int z33), (0, .ref h0), (1, .int x1), (2, .int x2)]) hx hb px_d51_104 hl (k := 4) rfl (by rw [ez35]; rfl) (by decide) rfl (fun ls hl => ?_)
          refine lv_goto (tgt := 2) hx hb px_d51_107 (by decide) ?_
          exact ih2 x1 x2 z35 v23 (upd (upd g_small (Int32.toNatClampNeg ((12 * x1) + x3)) z34) (Int32.toNatClampNeg ((12 * x2) + x3)) z33) nv32 H locs ls hP hD hS (lv_sub hl [2, 3, 4, 0] rfl) hw
  unfold w51_wp at hw
  have hS0 := hS
  obtain ⟨H, hH9⟩ : ∃ z, z = s.heap := ⟨_, rfl⟩
  have hP : va_P (dC, dI) vwCl (([(h0, .inr (8, px_mf (px_rf hh rf) iv)), ((px_rf hh rf) 8, .inl (c_work, 156, .inr (.inr (.inr (.inr (fun k => some (hh k))))))), ((px_rf hh rf) 9, .inl (c_small, 156, .inl g_small))] : va_W) ++ px_np hh qq cN nv) H := by rw [hH9]; exact hP
  obtain ⟨locs, hlo9⟩ : ∃ z : List Loc, z = [] := ⟨_, rfl⟩
  have hS : va_S A s.heap H locs := by rw [hH9, hlo9]; exact hS
  suffices hG : W p l e (headSpec px_s51 ({ frames := 1, cells := 0, slots := 0, locals := 22 })).room s m ([.ref h0, .int a1x, .int a2x]).toArray below meth c H locs 0 0 Q (F0 m 0 ls []) by rw [hH9, hlo9] at hG; exact hG
  refine lv_iconst (v := 0) hx hb px_d51_0 (by decide) ?_
  refine lv_istore_n (lv' := [(3, .int 0), (0, .ref h0), (1, .int a1x), (2, .int a2x)]) hx hb px_d51_1 rfl hl (by decide) rfl (fun ls hl => ?_)
  obtain ⟨k9, hw⟩ := hw
  exact S2 k9 a1x a2x 0 iv g_small nv H locs ls hP hD hS (lv_sub hl [1, 2, 3, 0] rfl) hw

