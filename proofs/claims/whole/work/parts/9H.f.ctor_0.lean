set_option maxHeartbeats 16000000 in
set_option maxRecDepth 100000 in
/-- MatroidDeskModel(): all that it makes -/
theorem px_Model_init (l : Launch) (dC : Nat → ClassId) (dI : Nat → Nat → Nat) (sz : Nat) (h0 : Nat) : Met l px_y62 px_s62 ({ frames := 13, cells := 429, slots := 447525, locals := 338 }) (va_Pc [.ref h0] (fun U => U.heap.size = sz ∧ va_P (dC, dI) vwCl [(h0, .inr (8, [.null, .null, .null, .null, .null, .null, .null, .null, .null, .null, .int 0, .int 0, .int 0, .null, .null, .null, .null, .null, .null, .null, .null, .null, .null, .null, .null, .null, .null, .null, .null, .null, .null, .null, .int 0, .int 0, .null, .null, .null, .int 0, .int 0, .int 0, .int 0, .int 0, .int 0, .int 0, .null, .null, .null, .int 0, .null, .int 0, .null, .int 0, .int 0]))] U.heap ∧ va_K (dC, dI) vwCl [] U ∧ va_D (fun _ => True) [(h0, .inr (8, [.null, .null, .null, .null, .null, .null, .null, .null, .null, .null, .int 0, .int 0, .int 0, .null, .null, .null, .null, .null, .null, .null, .null, .null, .null, .null, .null, .null, .null, .null, .null, .null, .null, .null, .int 0, .int 0, .null, .null, .null, .int 0, .int 0, .int 0, .int 0, .int 0, .int 0, .int 0, .null, .null, .null, .int 0, .null, .int 0, .null, .int 0, .int 0]))] ∧ px_N U)) (va_Qv (fun (_ : Unit) => True) (fun (_ : Unit) (t : State) => ∃ (hh qq rf : Nat → Nat) (go gz : Nat → Int32) (c_work c_small c_pivots c_freeRows c_freeColumns c_minor c_smallMinor c_there c_elements c_fields c_ranks c_kept c_keptSmall c_weights c_rankOf c_signOf c_order c_sizes c_coefficients c_choices c_sorted c_images c_others c_text c_list c_saved c_sheet c_decimals c_came cN : ClassId), va_P (dC, dI) vwCl (([(h0, .inr (8, px_mf (px_rf hh rf) (fun k => if k = 42 then (-1) else 0))), ((px_rf hh rf) 8, .inl (c_work, 156, .inr (.inr (.inr (.inr (fun k => some (hh k))))))), ((px_rf hh rf) 9, .inl (c_small, 156, .inl (fun _ => 0))), ((px_rf hh rf) 13, .inl (c_pivots, 13, .inl (fun _ => 0))), ((px_rf hh rf) 14, .inl (c_freeRows, 12, .inl (fun _ => 0))), ((px_rf hh rf) 15, .inl (c_freeColumns, 12, .inl (fun _ => 0))), ((px_rf hh rf) 16, .inl (c_minor, 36, .inr (.inr (.inr (.inr (fun k => some (hh (156 + k)))))))), ((px_rf hh rf) 17, .inl (c_smallMinor, 36, .inl (fun _ => 0))), ((px_rf hh rf) 18, .inl (c_there, 26, .inl (fun _ => 0))), ((px_rf hh rf) 19, .inl (c_elements, 26, .inl (fun _ => 0))), ((px_rf hh rf) 20, .inl (c_fields, 26, .inl (fun _ => 0))), ((px_rf hh rf) 21, .inl (c_ranks, 26, .inl (fun _ => 0))), ((px_rf hh rf) 22, .inl (c_kept, 89856, .inl (fun _ => 0))), ((px_rf hh rf) 23, .inl (c_keptSmall, 3744, .inl (fun _ => 0))), ((px_rf hh rf) 24, .inl (c_weights, 312, .inl (fun _ => 0))), ((px_rf hh rf) 25, .inl (c_rankOf, 106496, .inl (fun _ => 0))), ((px_rf hh rf) 26, .inl (c_signOf, 106496, .inl (fun _ => 0))), ((px_rf hh rf) 27, .inl (c_order, 4096, .inl go)), ((px_rf hh rf) 28, .inl (c_sizes, 4096, .inl gz)), ((px_rf hh rf) 29, .inl (c_coefficients, 169, .inr (.inl (fun _ => 0)))), ((px_rf hh rf) 30, .inl (c_choices, 169, .inr (.inl (fun _ => 0)))), ((px_rf hh rf) 31, .inl (c_sorted, 13, .inl (fun _ => 0))), ((px_rf hh rf) 34, .inl (c_images, 12, .inl (fun _ => 0))), ((px_rf hh rf) 35, .inl (c_others, 169, .inl (fun _ => 0))), ((px_rf hh rf) 36, .inl (c_text, 16384, .inl (fun _ => 0))), ((px_rf hh rf) 44, .inl (c_list, 256, .inl (fun _ => 0))), ((px_rf hh rf) 45, .inl (c_saved, 12, .inl (fun _ => 0))), ((px_rf hh rf) 46, .inl (c_sheet, 65536, .inl (fun _ => 0))), ((px_rf hh rf) 48, .inl (c_decimals, 200, .inl (fun _ => 0))), ((px_rf hh rf) 50, .inl (c_came, 16384, .inl (fun _ => 0)))] : va_W) ++ px_np hh qq cN (fun _ => (0, 0, fun _ => 0))) t.heap ∧ va_K (dC, dI) vwCl [(c_work, .object "MatroidDeskModel$Num"), (c_small, .int), (c_pivots, .int), (c_freeRows, .int), (c_freeColumns, .int), (c_minor, .object "MatroidDeskModel$Num"), (c_smallMinor, .int), (c_there, .boolean), (c_elements, .int), (c_fields, .int), (c_ranks, .int), (c_kept, .int), (c_keptSmall, .int), (c_weights, .int), (c_rankOf, .byte), (c_signOf, .byte), (c_order, .int), (c_sizes, .int), (c_coefficients, .long), (c_choices, .long), (c_sorted, .int), (c_images, .int), (c_others, .int), (c_text, .byte), (c_list, .int), (c_saved, .int), (c_sheet, .byte), (c_decimals, .byte), (c_came, .byte), (cN, .int)] t ∧ va_D (va_A [(h0, .inr (8, [.null, .null, .null, .null, .null, .null, .null, .null, .null, .null, .int 0, .int 0, .int 0, .null, .null, .null, .null, .null, .null, .null, .null, .null, .null, .null, .null, .null, .null, .null, .null, .null, .null, .null, .int 0, .int 0, .null, .null, .null, .int 0, .int 0, .int 0, .int 0, .int 0, .int 0, .int 0, .null, .null, .null, .int 0, .null, .int 0, .null, .int 0, .int 0]))] sz) (([(h0, .inr (8, px_mf (px_rf hh rf) (fun k => if k = 42 then (-1) else 0))), ((px_rf hh rf) 8, .inl (c_work, 156, .inr (.inr (.inr (.inr (fun k => some (hh k))))))), ((px_rf hh rf) 9, .inl (c_small, 156, .inl (fun _ => 0))), ((px_rf hh rf) 13, .inl (c_pivots, 13, .inl (fun _ => 0))), ((px_rf hh rf) 14, .inl (c_freeRows, 12, .inl (fun _ => 0))), ((px_rf hh rf) 15, .inl (c_freeColumns, 12, .inl (fun _ => 0))), ((px_rf hh rf) 16, .inl (c_minor, 36, .inr (.inr (.inr (.inr (fun k => some (hh (156 + k)))))))), ((px_rf hh rf) 17, .inl (c_smallMinor, 36, .inl (fun _ => 0))), ((px_rf hh rf) 18, .inl (c_there, 26, .inl (fun _ => 0))), ((px_rf hh rf) 19, .inl (c_elements, 26, .inl (fun _ => 0))), ((px_rf hh rf) 20, .inl (c_fields, 26, .inl (fun _ => 0))), ((px_rf hh rf) 21, .inl (c_ranks, 26, .inl (fun _ => 0))), ((px_rf hh rf) 22, .inl (c_kept, 89856, .inl (fun _ => 0))), ((px_rf hh rf) 23, .inl (c_keptSmall, 3744, .inl (fun _ => 0))), ((px_rf hh rf) 24, .inl (c_weights, 312, .inl (fun _ => 0))), ((px_rf hh rf) 25, .inl (c_rankOf, 106496, .inl (fun _ => 0))), ((px_rf hh rf) 26, .inl (c_signOf, 106496, .inl (fun _ => 0))), ((px_rf hh rf) 27, .inl (c_order, 4096, .inl go)), ((px_rf hh rf) 28, .inl (c_sizes, 4096, .inl gz)), ((px_rf hh rf) 29, .inl (c_coefficients, 169, .inr (.inl (fun _ => 0)))), ((px_rf hh rf) 30, .inl (c_choices, 169, .inr (.inl (fun _ => 0)))), ((px_rf hh rf) 31, .inl (c_sorted, 13, .inl (fun _ => 0))), ((px_rf hh rf) 34, .inl (c_images, 12, .inl (fun _ => 0))), ((px_rf hh rf) 35, .inl (c_others, 169, .inl (fun _ => 0))), ((px_rf hh rf) 36, .inl (c_text, 16384, .inl (fun _ => 0))), ((px_rf hh rf) 44, .inl (c_list, 256, .inl (fun _ => 0))), ((px_rf hh rf) 45, .inl (c_saved, 12, .inl (fun _ => 0))), ((px_rf hh rf) 46, .inl (c_sheet, 65536, .inl (fun _ => 0))), ((px_rf hh rf) 48, .inl (c_decimals, 200, .inl (fun _ => 0))), ((px_rf hh rf) 50, .inl (c_came, 16384, .inl (fun _ => 0)))] : va_W) ++ px_np hh qq cN (fun _ => (0, 0, fun _ => 0))) ∧ r_T go gz) (va_A [(h0, .inr (8, [.null, .null, .null, .null, .null, .null, .null, .null, .null, .null, .int 0, .int 0, .int 0, .null, .null, .null, .null, .null, .null, .null, .null, .null, .null, .null, .null, .null, .null, .null, .null, .null, .null, .null, .int 0, .int 0, .null, .null, .null, .int 0, .int 0, .int 0, .int 0, .int 0, .int 0, .int 0, .null, .null, .null, .int 0, .null, .int 0, .null, .int 0, .int 0]))] sz)) 429 447525 (va_A [(h0, .inr (8, [.null, .null, .null, .null, .null, .null, .null, .null, .null, .null, .int 0, .int 0, .int 0, .null, .null, .null, .null, .null, .null, .null, .null, .null, .null, .null, .null, .null, .null, .null, .null, .null, .null, .null, .int 0, .int 0, .null, .null, .null, .int 0, .int 0, .int 0, .int 0, .int 0, .int 0, .int 0, .null, .null, .null, .int 0, .null, .int 0, .null, .int 0, .int 0]))] sz) := by
  refine Met.ofW (cc := prog_15_method_17_code) (maxL := 3) (ret := none) (by decide) rfl ?_
  intro p e s m args below meth c s₁ B hml hv
  obtain ⟨rfl, hsz, hP, hK, hD0, hN⟩ := hv
  have hx := B.exec
  have hb := B.bytes
  have hr := B.returns
  have htw : ∀ w ∈ px_all, w.before _ s = true := fun w h => atoms_spec (ws := px_s62) B.pre w (List.mem_cons_of_mem _ h)
  have hown : s.vm.findClass "MatroidDeskModel" = some m.cls := findClass_of_methodNamed B.named
  have hlocks := B.notSynchronized
  have hin : meth.name = "<init>" := (name_of_methodNamed B.named B.method).1
  subst hsz
  have hD := hD0.self (sz := s.heap.size)
  generalize hAe : va_A [(h0, .inr (8, [.null, .null, .null, .null, .null, .null, .null, .null, .null, .null, .int 0, .int 0, .int 0, .null, .null, .null, .null, .null, .null, .null, .null, .null, .null, .null, .null, .null, .null, .null, .null, .null, .null, .null, .int 0, .int 0, .null, .null, .null, .int 0, .int 0, .int 0, .int 0, .int 0, .int 0, .int 0, .null, .null, .null, .int 0, .null, .int 0, .null, .int 0, .int 0]))] s.heap.size = A at hD ⊢
  have hA : ∀ q : Nat, s.heap.size ≤ q → A q := fun q h => by rw [← hAe]; exact Or.inr h
  have hS : va_S A s.heap s.heap [] := va_S.rf
  have hP : va_P (dC, dI) vwCl [(h0, .inr (8, [.null, .null, .null, .null, .null, .null, .null, .null, .null, .null, .int 0, .int 0, .int 0, .null, .null, .null, .null, .null, .null, .null, .null, .null, .null, .null, .null, .null, .null, .null, .null, .null, .null, .null, .int 0, .int 0, .null, .null, .null, .int 0, .int 0, .int 0, .int 0, .int 0, .int 0, .int 0, .null, .null, .null, .int 0, .null, .int 0, .null, .int 0, .int 0]))] s.heap := hP
  have hl := lv_entry ([.ref h0]) (n := 3) (Nat.le_of_ble_eq_true rfl)
  rw [lg_entry_eq]
  generalize (lg_sl ([.ref h0]) ++ List.replicate (3 - (lg_sl ([.ref h0])).length) Slot.unset).toArray = ls at hl ⊢
  have hl : lv_has ls 3 [(0, .ref h0)] := hl
  generalize hQ : MQ _ _ _ _ _ _ _ = Q
  obtain ⟨fs0, efs_0⟩ : ∃ z : List Value, z = [.null, .null, .null, .null, .null, .null, .null, .null, .null, .null, .int 0, .int 0, .int 0, .null, .null, .null, .null, .null, .null, .null, .null, .null, .null, .null, .null, .null, .null, .null, .null, .null, .null, .null, .int 0, .int 0, .null, .null, .null, .int 0, .int 0, .int 0, .int 0, .int 0, .int 0, .int 0, .null, .null, .null, .int 0, .null, .int 0, .null, .int 0, .int 0] := ⟨_, rfl⟩
  obtain ⟨Z_0, eZ_0⟩ : ∃ z : va_W, z = [] := ⟨_, rfl⟩
  have hlen : fs0.length = 53 := by rw [efs_0]; rfl
  replace hP : va_P (dC, dI) vwCl (([(h0, .inr (8, fs0))] : va_W) ++ Z_0) s.heap := by rw [efs_0, eZ_0]; exact hP
  replace hD : va_D A (([(h0, .inr (8, fs0))] : va_W) ++ Z_0) := by rw [efs_0, eZ_0]; exact hD
  refine lv_aload_n hx hb px_d62_0 rfl (lv_at hl 0 rfl) ?_
  refine W.objInit hx hb hown (htw _ px_w499) (htw _ px_w1) (htw _ px_w0) rfl (by rw [hml]; exact hl.1) rfl px_d62_1 (Nat.le_of_ble_eq_true rfl) (Nat.le_of_ble_eq_true rfl) ?_
  refine W.eq (g2 := F0 m 4 ls []) rfl ?_
  refine lv_aload_n hx hb px_d62_4 rfl (lv_at hl 0 rfl) ?_
  refine va_new (ci := 9) (fs := [.null, .int 0, .int 0]) (C := "MatroidDeskModel$Num") (T := px_T9) (N := 3) hx hb htw px_in9 px_ty9 px_tyok9 hown (htw _ px_w500) (htw _ px_w150) (htw _ px_w149) hK hP hD hS hA rfl px_df9 (Nat.le_of_ble_eq_true rfl) (Nat.le_of_ble_eq_true rfl) px_d62_5 (fun q H hP hD hS => ?_)
  replace hP := hP.swap
  replace hD := hD.swap
  replace hP : va_P (dC, dI) vwCl (([(h0, .inr (8, fs0)), (q, .inr (9, [.null, .int 0, .int 0]))] : va_W) ++ Z_0) H := hP
  replace hD : va_D A (([(h0, .inr (8, fs0)), (q, .inr (9, [.null, .int 0, .int 0]))] : va_W) ++ Z_0) := hD
  refine W.widen (k := 1) (n := 3) (Nat.le_of_ble_eq_true rfl) (Nat.le_of_ble_eq_true rfl) ?_
  refine lv_dup hx hb px_d62_8 rfl ?_
  have hPc := hP.sub (ws' := [(q, .inr (9, [.null, .int 0, .int 0]))]) [1] rfl
  have hDc := hD.sub (ws' := [(q, .inr (9, [.null, .int 0, .int 0]))]) [1] (by decide) rfl
  have hKc := hK.sub (tys' := []) [] rfl
  have hFc := va_free (wc := [(q, .inr (9, [.null, .int 0, .int 0]))]) hD hS hA [1] rfl
  refine va_callv (va_runIN (As := []) (rest := [.ref q, .ref h0]) ⟨hx, hb, hml, hown, htw⟩ (px_Num_init l dC dI H.size q) ⟨(va_cnB 0 htw px_g8 rfl rfl rfl (hN.2.1 ("MatroidDeskModel", 152, px_y8, "MatroidDeskModel") px_mm1) (htw _ px_w149) (by decide +kernel) ⟨Nat.le_of_ble_eq_true rfl, Nat.le_of_ble_eq_true rfl⟩), rfl, (htw _ px_w265)⟩ ⟨fun a U g mk q => by obtain ⟨q0, q1, qP, qK, qD, qN⟩ := q; exact ⟨q0, q1, qP, va_K.moved (u := U) (U := U.calling g mk a) (Vm.Alike.refl U.vm) qK, qD, qN.same rfl⟩, fun U hU hW => ⟨rfl, by rw [hU], by rw [hU]; exact hPc, va_K.moved hW.alike hKc, hDc.weaken (fun _ _ _ _ => trivial), hN.warm hW⟩⟩ rfl rfl hl.1 rfl (lv_room (Nat.le_of_ble_eq_true rfl)) px_d62_9 ⟨(Nat.le_of_ble_eq_true rfl), (Nat.le_of_ble_eq_true rfl)⟩) hS (fun q _ h => hFc q h) hFc (fun u t H1 locs ht hvm hw_n hB hz1 hk1 hS => ?_)
  obtain ⟨q_1, cA, hP1, hK1, hD1⟩ := hB
  rw [ht] at hP1
  have hK1 := va_K.moved hvm.symm hK1
  obtain ⟨hP, hD⟩ := va_joinQ (wr := [(h0, .inr (8, fs0))]) (w1 := [(q, .inr (9, [.ref q_1, .int 0, .int 0])), (q_1, .inl (cA, 160, .inl (fun _ => 0)))]) hP hD [1] [0] rfl rfl (by decide) (by decide) hk1 hFc hP1 hD1
  generalize H1 = H at hP hS ⊢
  have hK := hK.app hK1
  replace hP : va_P (dC, dI) vwCl (([(h0, .inr (8, fs0)), (q, .inr (9, [.ref q_1, .int 0, .int 0])), (q_1, .inl (cA, 160, .inl (fun _ => 0)))] : va_W) ++ Z_0) H := hP
  replace hD : va_D A (([(h0, .inr (8, fs0)), (q, .inr (9, [.ref q_1, .int 0, .int 0])), (q_1, .inl (cA, 160, .inl (fun _ => 0)))] : va_W) ++ Z_0) := hD
  replace hK : va_K (dC, dI) vwCl [(cA, .int)] s := hK
  refine W.widen (k := 2) (n := 163) (Nat.le_of_ble_eq_true rfl) (Nat.le_of_ble_eq_true rfl) ?_
  refine va_putF (D := (dC, dI)) (ci := 8) (v := .ref q) (ty := (.object "MatroidDeskModel$Num")) (C := "MatroidDeskModel") (T := px_T8) (N := 53) hx hb htw px_in8 px_ty8 px_tyok8 px_nm8 hown hK hP hD hS 0 rfl rfl 0 (by decide) (htw _ px_w443) (fun _ h9 => h9) rfl hin rfl (by decide +kernel) rfl rfl (by rw [hlen]; decide) px_d62_12 (fun H locs hP hD hS => ?_)
  replace hP : va_P (dC, dI) vwCl (([(h0, .inr (8, (fs0.set 0 (.ref q)))), (q, .inr (9, [.ref q_1, .int 0, .int 0])), (q_1, .inl (cA, 160, .inl (fun _ => 0)))] : va_W) ++ Z_0) H := hP
  replace hD : va_D A (([(h0, .inr (8, (fs0.set 0 (.ref q)))), (q, .inr (9, [.ref q_1, .int 0, .int 0])), (q_1, .inl (cA, 160, .inl (fun _ => 0)))] : va_W) ++ Z_0) := hD
  obtain ⟨fs1, efs_1⟩ : ∃ z : List Value, z = (fs0.set 0 (.ref q)) := ⟨_, rfl⟩
  rw [← efs_1] at hP hD
  replace hlen : fs1.length = 53 := by rw [efs_1]; exact px_sl hlen
  replace efs_1 : fs1 = [.ref q, .null, .null, .null, .null, .null, .null, .null, .null, .null, .int 0, .int 0, .int 0, .null, .null, .null, .null, .null, .null, .null, .null, .null, .null, .null, .null, .null, .null, .null, .null, .null, .null, .null, .int 0, .int 0, .null, .null, .null, .int 0, .int 0, .int 0, .int 0, .int 0, .int 0, .int 0, .null, .null, .null, .int 0, .null, .int 0, .null, .int 0, .int 0] := by rw [efs_1, efs_0]; rfl
  clear efs_0
  obtain ⟨Z_1, eZ_1⟩ : ∃ z : va_W, z = ([(q, .inr (9, [.ref q_1, .int 0, .int 0])), (q_1, .inl (cA, 160, .inl (fun _ => 0)))] : va_W) ++ Z_0 := ⟨_, rfl⟩
  replace hP : va_P (dC, dI) vwCl (([(h0, .inr (8, fs1))] : va_W) ++ Z_1) H := by rw [eZ_1]; exact hP
  replace hD : va_D A (([(h0, .inr (8, fs1))] : va_W) ++ Z_1) := by rw [eZ_1]; exact hD
  replace eZ_1 : Z_1 = [(q, .inr (9, [.ref q_1, .int 0, .int 0])), (q_1, .inl (cA, 160, .inl (fun _ => 0)))] := by rw [eZ_1, eZ_0]; rfl
  clear eZ_0
  refine lv_aload_n hx hb px_d62_15 rfl (lv_at hl 0 rfl) ?_
  refine va_new (ci := 9) (fs := [.null, .int 0, .int 0]) (C := "MatroidDeskModel$Num") (T := px_T9) (N := 3) hx hb htw px_in9 px_ty9 px_tyok9 hown (htw _ px_w500) (htw _ px_w150) (htw _ px_w149) hK hP hD hS hA rfl px_df9 (Nat.le_of_ble_eq_true rfl) (Nat.le_of_ble_eq_true rfl) px_d62_16 (fun q_2 H hP hD hS => ?_)
  replace hP := hP.swap
  replace hD := hD.swap
  replace hP : va_P (dC, dI) vwCl (([(h0, .inr (8, fs1)), (q_2, .inr (9, [.null, .int 0, .int 0]))] : va_W) ++ Z_1) H := hP
  replace hD : va_D A (([(h0, .inr (8, fs1)), (q_2, .inr (9, [.null, .int 0, .int 0]))] : va_W) ++ Z_1) := hD
  refine W.widen (k := 3) (n := 166) (Nat.le_of_ble_eq_true rfl) (Nat.le_of_ble_eq_true rfl) ?_
  refine lv_dup hx hb px_d62_19 rfl ?_
  replace hPc := hP.sub (ws' := [(q_2, .inr (9, [.null, .int 0, .int 0]))]) [1] rfl
  replace hDc := hD.sub (ws' := [(q_2, .inr (9, [.null, .int 0, .int 0]))]) [1] (by decide) rfl
  replace hKc := hK.sub (tys' := []) [] rfl
  replace hFc := va_free (wc := [(q_2, .inr (9, [.null, .int 0, .int 0]))]) hD hS hA [1] rfl
  refine va_callv (va_runIN (As := []) (rest := [.ref q_2, .ref h0]) ⟨hx, hb, hml, hown, htw⟩ (px_Num_init l dC dI H.size q_2) ⟨(va_cnB 0 htw px_g8 rfl rfl rfl (hN.2.1 ("MatroidDeskModel", 152, px_y8, "MatroidDeskModel") px_mm1) (htw _ px_w149) (by decide +kernel) ⟨Nat.le_of_ble_eq_true rfl, Nat.le_of_ble_eq_true rfl⟩), rfl, (htw _ px_w265)⟩ ⟨fun a U g mk q => by obtain ⟨q0, q1, qP, qK, qD, qN⟩ := q; exact ⟨q0, q1, qP, va_K.moved (u := U) (U := U.calling g mk a) (Vm.Alike.refl U.vm) qK, qD, qN.same rfl⟩, fun U hU hW => ⟨rfl, by rw [hU], by rw [hU]; exact hPc, va_K.moved hW.alike hKc, hDc.weaken (fun _ _ _ _ => trivial), hN.warm hW⟩⟩ rfl rfl hl.1 rfl (lv_room (Nat.le_of_ble_eq_true rfl)) px_d62_20 ⟨(Nat.le_of_ble_eq_true rfl), (Nat.le_of_ble_eq_true rfl)⟩) hS (fun q _ h => hFc q h) hFc (fun u t H1 locs ht hvm hw_n hB hz1 hk1 hS => ?_)
  obtain ⟨q_3, cA_1, hP1, hK1, hD1⟩ := hB
  rw [ht] at hP1
  replace hK1 := va_K.moved hvm.symm hK1
  obtain ⟨hP, hD⟩ := va_joinQ (wr := [(h0, .inr (8, fs1))]) (w1 := [(q_2, .inr (9, [.ref q_3, .int 0, .int 0])), (q_3, .inl (cA_1, 160, .inl (fun _ => 0)))]) hP hD [1] [0] rfl rfl (by decide) (by decide) hk1 hFc hP1 hD1
  generalize H1 = H at hP hS ⊢
  replace hK := hK.app hK1
  have eN : cA = cA_1 := (px_cAeq (tys := [(cA, .int)]) (hK.sub (tys' := [(cA, .int), (cA_1, .int)]) [0, 1] rfl) (hK.sub (tys' := [(cA, .int)]) [0] rfl) 0 rfl).symm
  subst eN
  replace hP : va_P (dC, dI) vwCl (([(h0, .inr (8, fs1)), (q_2, .inr (9, [.ref q_3, .int 0, .int 0])), (q_3, .inl (cA, 160, .inl (fun _ => 0)))] : va_W) ++ Z_1) H := hP
  replace hD : va_D A (([(h0, .inr (8, fs1)), (q_2, .inr (9, [.ref q_3, .int 0, .int 0])), (q_3, .inl (cA, 160, .inl (fun _ => 0)))] : va_W) ++ Z_1) := hD
  replace hK : va_K (dC, dI) vwCl [(cA, .int), (cA, .int)] s := hK
  refine W.widen (k := 4) (n := 326) (Nat.le_of_ble_eq_true rfl) (Nat.le_of_ble_eq_true rfl) ?_
  refine va_putF (D := (dC, dI)) (ci := 8) (v := .ref q_2) (ty := (.object "MatroidDeskModel$Num")) (C := "MatroidDeskModel") (T := px_T8) (N := 53) hx hb htw px_in8 px_ty8 px_tyok8 px_nm8 hown hK hP hD hS 0 rfl rfl 1 (by decide) (htw _ px_w419) (fun _ h9 => h9) rfl hin rfl (by decide +kernel) rfl rfl (by rw [hlen]; decide) px_d62_23 (fun H locs hP hD hS => ?_)
  replace hP : va_P (dC, dI) vwCl (([(h0, .inr (8, (fs1.set 1 (.ref q_2)))), (q_2, .inr (9, [.ref q_3, .int 0, .int 0])), (q_3, .inl (cA, 160, .inl (fun _ => 0)))] : va_W) ++ Z_1) H := hP
  replace hD : va_D A (([(h0, .inr (8, (fs1.set 1 (.ref q_2)))), (q_2, .inr (9, [.ref q_3, .int 0, .int 0])), (q_3, .inl (cA, 160, .inl (fun _ => 0)))] : va_W) ++ Z_1) := hD
  obtain ⟨fs2, efs_2⟩ : ∃ z : List Value, z = (fs1.set 1 (.ref q_2)) := ⟨_, rfl⟩
  rw [← efs_2] at hP hD
  replace hlen : fs2.length = 53 := by rw [efs_2]; exact px_sl hlen
  replace efs_2 : fs2 = [.ref q, .ref q_2, .null, .null, .null, .null, .null, .null, .null, .null, .int 0, .int 0, .int 0, .null, .null, .null, .null, .null, .null, .null, .null, .null, .null, .null, .null, .null, .null, .null, .null, .null, .null, .null, .int 0, .int 0, .null, .null, .null, .int 0, .int 0, .int 0, .int 0, .int 0, .int 0, .int 0, .null, .null, .null, .int 0, .null, .int 0, .null, .int 0, .int 0] := by rw [efs_2, efs_1]; rfl
  clear efs_1
  obtain ⟨Z_2, eZ_2⟩ : ∃ z : va_W, z = ([(q_2, .inr (9, [.ref q_3, .int 0, .int 0])), (q_3, .inl (cA, 160, .inl (fun _ => 0)))] : va_W) ++ Z_1 := ⟨_, rfl⟩
  replace hP : va_P (dC, dI) vwCl (([(h0, .inr (8, fs2))] : va_W) ++ Z_2) H := by rw [eZ_2]; exact hP
  replace hD : va_D A (([(h0, .inr (8, fs2))] : va_W) ++ Z_2) := by rw [eZ_2]; exact hD
  replace eZ_2 : Z_2 = [(q_2, .inr (9, [.ref q_3, .int 0, .int 0])), (q_3, .inl (cA, 160, .inl (fun _ => 0))), (q, .inr (9, [.ref q_1, .int 0, .int 0])), (q_1, .inl (cA, 160, .inl (fun _ => 0)))] := by rw [eZ_2, eZ_1]; rfl
  clear eZ_1
  refine lv_aload_n hx hb px_d62_26 rfl (lv_at hl 0 rfl) ?_
  refine va_new (ci := 9) (fs := [.null, .int 0, .int 0]) (C := "MatroidDeskModel$Num") (T := px_T9) (N := 3) hx hb htw px_in9 px_ty9 px_tyok9 hown (htw _ px_w500) (htw _ px_w150) (htw _ px_w149) hK hP hD hS hA rfl px_df9 (Nat.le_of_ble_eq_true rfl) (Nat.le_of_ble_eq_true rfl) px_d62_27 (fun q_4 H hP hD hS => ?_)
  replace hP := hP.swap
  replace hD := hD.swap
  replace hP : va_P (dC, dI) vwCl (([(h0, .inr (8, fs2)), (q_4, .inr (9, [.null, .int 0, .int 0]))] : va_W) ++ Z_2) H := hP
  replace hD : va_D A (([(h0, .inr (8, fs2)), (q_4, .inr (9, [.null, .int 0, .int 0]))] : va_W) ++ Z_2) := hD
  refine W.widen (k := 5) (n := 329) (Nat.le_of_ble_eq_true rfl) (Nat.le_of_ble_eq_true rfl) ?_
  refine lv_dup hx hb px_d62_30 rfl ?_
  replace hPc := hP.sub (ws' := [(q_4, .inr (9, [.null, .int 0, .int 0]))]) [1] rfl
  replace hDc := hD.sub (ws' := [(q_4, .inr (9, [.null, .int 0, .int 0]))]) [1] (by decide) rfl
  replace hKc := hK.sub (tys' := []) [] rfl
  replace hFc := va_free (wc := [(q_4, .inr (9, [.null, .int 0, .int 0]))]) hD hS hA [1] rfl
  refine va_callv (va_runIN (As := []) (rest := [.ref q_4, .ref h0]) ⟨hx, hb, hml, hown, htw⟩ (px_Num_init l dC dI H.size q_4) ⟨(va_cnB 0 htw px_g8 rfl rfl rfl (hN.2.1 ("MatroidDeskModel", 152, px_y8, "MatroidDeskModel") px_mm1) (htw _ px_w149) (by decide +kernel) ⟨Nat.le_of_ble_eq_true rfl, Nat.le_of_ble_eq_true rfl⟩), rfl, (htw _ px_w265)⟩ ⟨fun a U g mk q => by obtain ⟨q0, q1, qP, qK, qD, qN⟩ := q; exact ⟨q0, q1, qP, va_K.moved (u := U) (U := U.calling g mk a) (Vm.Alike.refl U.vm) qK, qD, qN.same rfl⟩, fun U hU hW => ⟨rfl, by rw [hU], by rw [hU]; exact hPc, va_K.moved hW.alike hKc, hDc.weaken (fun _ _ _ _ => trivial), hN.warm hW⟩⟩ rfl rfl hl.1 rfl (lv_room (Nat.le_of_ble_eq_true rfl)) px_d62_31 ⟨(Nat.le_of_ble_eq_true rfl), (Nat.le_of_ble_eq_true rfl)⟩) hS (fun q _ h => hFc q h) hFc (fun u t H1 locs ht hvm hw_n hB hz1 hk1 hS => ?_)
  obtain ⟨q_5, cA_2, hP1, hK1, hD1⟩ := hB
  rw [ht] at hP1
  replace hK1 := va_K.moved hvm.symm hK1
  obtain ⟨hP, hD⟩ := va_joinQ (wr := [(h0, .inr (8, fs2))]) (w1 := [(q_4, .inr (9, [.ref q_5, .int 0, .int 0])), (q_5, .inl (cA_2, 160, .inl (fun _ => 0)))]) hP hD [1] [0] rfl rfl (by decide) (by decide) hk1 hFc hP1 hD1
  generalize H1 = H at hP hS ⊢
  replace hK := hK.app hK1
  have eN : cA = cA_2 := (px_cAeq (tys := [(cA, .int)]) (hK.sub (tys' := [(cA, .int), (cA_2, .int)]) [0, 2] rfl) (hK.sub (tys' := [(cA, .int)]) [0] rfl) 0 rfl).symm
  subst eN
  replace hP : va_P (dC, dI) vwCl (([(h0, .inr (8, fs2)), (q_4, .inr (9, [.ref q_5, .int 0, .int 0])), (q_5, .inl (cA, 160, .inl (fun _ => 0)))] : va_W) ++ Z_2) H := hP
  replace hD : va_D A (([(h0, .inr (8, fs2)), (q_4, .inr (9, [.ref q_5, .int 0, .int 0])), (q_5, .inl (cA, 160, .inl (fun _ => 0)))] : va_W) ++ Z_2) := hD
  replace hK : va_K (dC, dI) vwCl [(cA, .int), (cA, .int), (cA, .int)] s := hK
  refine W.widen (k := 6) (n := 489) (Nat.le_of_ble_eq_true rfl) (Nat.le_of_ble_eq_true rfl) ?_
  refine va_putF (D := (dC, dI)) (ci := 8) (v := .ref q_4) (ty := (.object "MatroidDeskModel$Num")) (C := "MatroidDeskModel") (T := px_T8) (N := 53) hx hb htw px_in8 px_ty8 px_tyok8 px_nm8 hown hK hP hD hS 0 rfl rfl 2 (by decide) (htw _ px_w418) (fun _ h9 => h9) rfl hin rfl (by decide +kernel) rfl rfl (by rw [hlen]; decide) px_d62_34 (fun H locs hP hD hS => ?_)
  replace hP : va_P (dC, dI) vwCl (([(h0, .inr (8, (fs2.set 2 (.ref q_4)))), (q_4, .inr (9, [.ref q_5, .int 0, .int 0])), (q_5, .inl (cA, 160, .inl (fun _ => 0)))] : va_W) ++ Z_2) H := hP
  replace hD : va_D A (([(h0, .inr (8, (fs2.set 2 (.ref q_4)))), (q_4, .inr (9, [.ref q_5, .int 0, .int 0])), (q_5, .inl (cA, 160, .inl (fun _ => 0)))] : va_W) ++ Z_2) := hD
  obtain ⟨fs3, efs_3⟩ : ∃ z : List Value, z = (fs2.set 2 (.ref q_4)) := ⟨_, rfl⟩
  rw [← efs_3] at hP hD
  replace hlen : fs3.length = 53 := by rw [efs_3]; exact px_sl hlen
  replace efs_3 : fs3 = [.ref q, .ref q_2, .ref q_4, .null, .null, .null, .null, .null, .null, .null, .int 0, .int 0, .int 0, .null, .null, .null, .null, .null, .null, .null, .null, .null, .null, .null, .null, .null, .null, .null, .null, .null, .null, .null, .int 0, .int 0, .null, .null, .null, .int 0, .int 0, .int 0, .int 0, .int 0, .int 0, .int 0, .null, .null, .null, .int 0, .null, .int 0, .null, .int 0, .int 0] := by rw [efs_3, efs_2]; rfl
  clear efs_2
  obtain ⟨Z_3, eZ_3⟩ : ∃ z : va_W, z = ([(q_4, .inr (9, [.ref q_5, .int 0, .int 0])), (q_5, .inl (cA, 160, .inl (fun _ => 0)))] : va_W) ++ Z_2 := ⟨_, rfl⟩
  replace hP : va_P (dC, dI) vwCl (([(h0, .inr (8, fs3))] : va_W) ++ Z_3) H := by rw [eZ_3]; exact hP
  replace hD : va_D A (([(h0, .inr (8, fs3))] : va_W) ++ Z_3) := by rw [eZ_3]; exact hD
  replace eZ_3 : Z_3 = [(q_4, .inr (9, [.ref q_5, .int 0, .int 0])), (q_5, .inl (cA, 160, .inl (fun _ => 0))), (q_2, .inr (9, [.ref q_3, .int 0, .int 0])), (q_3, .inl (cA, 160, .inl (fun _ => 0))), (q, .inr (9, [.ref q_1, .int 0, .int 0])), (q_1, .inl (cA, 160, .inl (fun _ => 0)))] := by rw [eZ_3, eZ_2]; rfl
  clear eZ_2
  refine lv_aload_n hx hb px_d62_37 rfl (lv_at hl 0 rfl) ?_
  refine va_new (ci := 9) (fs := [.null, .int 0, .int 0]) (C := "MatroidDeskModel$Num") (T := px_T9) (N := 3) hx hb htw px_in9 px_ty9 px_tyok9 hown (htw _ px_w500) (htw _ px_w150) (htw _ px_w149) hK hP hD hS hA rfl px_df9 (Nat.le_of_ble_eq_true rfl) (Nat.le_of_ble_eq_true rfl) px_d62_38 (fun q_6 H hP hD hS => ?_)
  replace hP := hP.swap
  replace hD := hD.swap
  replace hP : va_P (dC, dI) vwCl (([(h0, .inr (8, fs3)), (q_6, .inr (9, [.null, .int 0, .int 0]))] : va_W) ++ Z_3) H := hP
  replace hD : va_D A (([(h0, .inr (8, fs3)), (q_6, .inr (9, [.null, .int 0, .int 0]))] : va_W) ++ Z_3) := hD
  refine W.widen (k := 7) (n := 492) (Nat.le_of_ble_eq_true rfl) (Nat.le_of_ble_eq_true rfl) ?_
  refine lv_dup hx hb px_d62_41 rfl ?_
  replace hPc := hP.sub (ws' := [(q_6, .inr (9, [.null, .int 0, .int 0]))]) [1] rfl
  replace hDc := hD.sub (ws' := [(q_6, .inr (9, [.null, .int 0, .int 0]))]) [1] (by decide) rfl
  replace hKc := hK.sub (tys' := []) [] rfl
  replace hFc := va_free (wc := [(q_6, .inr (9, [.null, .int 0, .int 0]))]) hD hS hA [1] rfl
  refine va_callv (va_runIN (As := []) (rest := [.ref q_6, .ref h0]) ⟨hx, hb, hml, hown, htw⟩ (px_Num_init l dC dI H.size q_6) ⟨(va_cnB 0 htw px_g8 rfl rfl rfl (hN.2.1 ("MatroidDeskModel", 152, px_y8, "MatroidDeskModel") px_mm1) (htw _ px_w149) (by decide +kernel) ⟨Nat.le_of_ble_eq_true rfl, Nat.le_of_ble_eq_true rfl⟩), rfl, (htw _ px_w265)⟩ ⟨fun a U g mk q => by obtain ⟨q0, q1, qP, qK, qD, qN⟩ := q; exact ⟨q0, q1, qP, va_K.moved (u := U) (U := U.calling g mk a) (Vm.Alike.refl U.vm) qK, qD, qN.same rfl⟩, fun U hU hW => ⟨rfl, by rw [hU], by rw [hU]; exact hPc, va_K.moved hW.alike hKc, hDc.weaken (fun _ _ _ _ => trivial), hN.warm hW⟩⟩ rfl rfl hl.1 rfl (lv_room (Nat.le_of_ble_eq_true rfl)) px_d62_42 ⟨(Nat.le_of_ble_eq_true rfl), (Nat.le_of_ble_eq_true rfl)⟩) hS (fun q _ h => hFc q h) hFc (fun u t H1 locs ht hvm hw_n hB hz1 hk1 hS => ?_)
  obtain ⟨q_7, cA_3, hP1, hK1, hD1⟩ := hB
  rw [ht] at hP1
  replace hK1 := va_K.moved hvm.symm hK1
  obtain ⟨hP, hD⟩ := va_joinQ (wr := [(h0, .inr (8, fs3))]) (w1 := [(q_6, .inr (9, [.ref q_7, .int 0, .int 0])), (q_7, .inl (cA_3, 160, .inl (fun _ => 0)))]) hP hD [1] [0] rfl rfl (by decide) (by decide) hk1 hFc hP1 hD1
  generalize H1 = H at hP hS ⊢
  replace hK := hK.app hK1
  have eN : cA = cA_3 := (px_cAeq (tys := [(cA, .int)]) (hK.sub (tys' := [(cA, .int), (cA_3, .int)]) [0, 3] rfl) (hK.sub (tys' := [(cA, .int)]) [0] rfl) 0 rfl).symm
  subst eN
  replace hP : va_P (dC, dI) vwCl (([(h0, .inr (8, fs3)), (q_6, .inr (9, [.ref q_7, .int 0, .int 0])), (q_7, .inl (cA, 160, .inl (fun _ => 0)))] : va_W) ++ Z_3) H := hP
  replace hD : va_D A (([(h0, .inr (8, fs3)), (q_6, .inr (9, [.ref q_7, .int 0, .int 0])), (q_7, .inl (cA, 160, .inl (fun _ => 0)))] : va_W) ++ Z_3) := hD
  replace hK : va_K (dC, dI) vwCl [(cA, .int), (cA, .int), (cA, .int), (cA, .int)] s := hK
  refine W.widen (k := 8) (n := 652) (Nat.le_of_ble_eq_true rfl) (Nat.le_of_ble_eq_true rfl) ?_
  refine va_putF (D := (dC, dI)) (ci := 8) (v := .ref q_6) (ty := (.object "MatroidDeskModel$Num")) (C := "MatroidDeskModel") (T := px_T8) (N := 53) hx hb htw px_in8 px_ty8 px_tyok8 px_nm8 hown hK hP hD hS 0 rfl rfl 3 (by decide) (htw _ px_w416) (fun _ h9 => h9) rfl hin rfl (by decide +kernel) rfl rfl (by rw [hlen]; decide) px_d62_45 (fun H locs hP hD hS => ?_)
  replace hP : va_P (dC, dI) vwCl (([(h0, .inr (8, (fs3.set 3 (.ref q_6)))), (q_6, .inr (9, [.ref q_7, .int 0, .int 0])), (q_7, .inl (cA, 160, .inl (fun _ => 0)))] : va_W) ++ Z_3) H := hP
  replace hD : va_D A (([(h0, .inr (8, (fs3.set 3 (.ref q_6)))), (q_6, .inr (9, [.ref q_7, .int 0, .int 0])), (q_7, .inl (cA, 160, .inl (fun _ => 0)))] : va_W) ++ Z_3) := hD
  obtain ⟨fs4, efs_4⟩ : ∃ z : List Value, z = (fs3.set 3 (.ref q_6)) := ⟨_, rfl⟩
  rw [← efs_4] at hP hD
  replace hlen : fs4.length = 53 := by rw [efs_4]; exact px_sl hlen
  replace efs_4 : fs4 = [.ref q, .ref q_2, .ref q_4, .ref q_6, .null, .null, .null, .null, .null, .null, .int 0, .int 0, .int 0, .null, .null, .null, .null, .null, .null, .null, .null, .null, .null, .null, .null, .null, .null, .null, .null, .null, .null, .null, .int 0, .int 0, .null, .null, .null, .int 0, .int 0, .int 0, .int 0, .int 0, .int 0, .int 0, .null, .null, .null, .int 0, .null, .int 0, .null, .int 0, .int 0] := by rw [efs_4, efs_3]; rfl
  clear efs_3
  obtain ⟨Z_4, eZ_4⟩ : ∃ z : va_W, z = ([(q_6, .inr (9, [.ref q_7, .int 0, .int 0])), (q_7, .inl (cA, 160, .inl (fun _ => 0)))] : va_W) ++ Z_3 := ⟨_, rfl⟩
  replace hP : va_P (dC, dI) vwCl (([(h0, .inr (8, fs4))] : va_W) ++ Z_4) H := by rw [eZ_4]; exact hP
  replace hD : va_D A (([(h0, .inr (8, fs4))] : va_W) ++ Z_4) := by rw [eZ_4]; exact hD
  replace eZ_4 : Z_4 = [(q_6, .inr (9, [.ref q_7, .int 0, .int 0])), (q_7, .inl (cA, 160, .inl (fun _ => 0))), (q_4, .inr (9, [.ref q_5, .int 0, .int 0])), (q_5, .inl (cA, 160, .inl (fun _ => 0))), (q_2, .inr (9, [.ref q_3, .int 0, .int 0])), (q_3, .inl (cA, 160, .inl (fun _ => 0))), (q, .inr (9, [.ref q_1, .int 0, .int 0])), (q_1, .inl (cA, 160, .inl (fun _ => 0)))] := by rw [eZ_4, eZ_3]; rfl
  clear eZ_3
  refine lv_aload_n hx hb px_d62_48 rfl (lv_at hl 0 rfl) ?_
  refine va_new (ci := 9) (fs := [.null, .int 0, .int 0]) (C := "MatroidDeskModel$Num") (T := px_T9) (N := 3) hx hb htw px_in9 px_ty9 px_tyok9 hown (htw _ px_w500) (htw _ px_w150) (htw _ px_w149) hK hP hD hS hA rfl px_df9 (Nat.le_of_ble_eq_true rfl) (Nat.le_of_ble_eq_true rfl) px_d62_49 (fun q_8 H hP hD hS => ?_)
  replace hP := hP.swap
  replace hD := hD.swap
  replace hP : va_P (dC, dI) vwCl (([(h0, .inr (8, fs4)), (q_8, .inr (9, [.null, .int 0, .int 0]))] : va_W) ++ Z_4) H := hP
  replace hD : va_D A (([(h0, .inr (8, fs4)), (q_8, .inr (9, [.null, .int 0, .int 0]))] : va_W) ++ Z_4) := hD
  refine W.widen (k := 9) (n := 655) (Nat.le_of_ble_eq_true rfl) (Nat.le_of_ble_eq_true rfl) ?_
  refine lv_dup hx hb px_d62_52 rfl ?_
  replace hPc := hP.sub (ws' := [(q_8, .inr (9, [.null, .int 0, .int 0]))]) [1] rfl
  replace hDc := hD.sub (ws' := [(q_8, .inr (9, [.null, .int 0, .int 0]))]) [1] (by decide) rfl
  replace hKc := hK.sub (tys' := []) [] rfl
  replace hFc := va_free (wc := [(q_8, .inr (9, [.null, .int 0, .int 0]))]) hD hS hA [1] rfl
  refine va_callv (va_runIN (As := []) (rest := [.ref q_8, .ref h0]) ⟨hx, hb, hml, hown, htw⟩ (px_Num_init l dC dI H.size q_8) ⟨(va_cnB 0 htw px_g8 rfl rfl rfl (hN.2.1 ("MatroidDeskModel", 152, px_y8, "MatroidDeskModel") px_mm1) (htw _ px_w149) (by decide +kernel) ⟨Nat.le_of_ble_eq_true rfl, Nat.le_of_ble_eq_true rfl⟩), rfl, (htw _ px_w265)⟩ ⟨fun a U g mk q => by obtain ⟨q0, q1, qP, qK, qD, qN⟩ := q; exact ⟨q0, q1, qP, va_K.moved (u := U) (U := U.calling g mk a) (Vm.Alike.refl U.vm) qK, qD, qN.same rfl⟩, fun U hU hW => ⟨rfl, by rw [hU], by rw [hU]; exact hPc, va_K.moved hW.alike hKc, hDc.weaken (fun _ _ _ _ => trivial), hN.warm hW⟩⟩ rfl rfl hl.1 rfl (lv_room (Nat.le_of_ble_eq_true rfl)) px_d62_53 ⟨(Nat.le_of_ble_eq_true rfl), (Nat.le_of_ble_eq_true rfl)⟩) hS (fun q _ h => hFc q h) hFc (fun u t H1 locs ht hvm hw_n hB hz1 hk1 hS => ?_)
  obtain ⟨q_9, cA_4, hP1, hK1, hD1⟩ := hB
  rw [ht] at hP1
  replace hK1 := va_K.moved hvm.symm hK1
  obtain ⟨hP, hD⟩ := va_joinQ (wr := [(h0, .inr (8, fs4))]) (w1 := [(q_8, .inr (9, [.ref q_9, .int 0, .int 0])), (q_9, .inl (cA_4, 160, .inl (fun _ => 0)))]) hP hD [1] [0] rfl rfl (by decide) (by decide) hk1 hFc hP1 hD1
  generalize H1 = H at hP hS ⊢
  replace hK := hK.app hK1
  have eN : cA = cA_4 := (px_cAeq (tys := [(cA, .int)]) (hK.sub (tys' := [(cA, .int), (cA_4, .int)]) [0, 4] rfl) (hK.sub (tys' := [(cA, .int)]) [0] rfl) 0 rfl).symm
  subst eN
  replace hP : va_P (dC, dI) vwCl (([(h0, .inr (8, fs4)), (q_8, .inr (9, [.ref q_9, .int 0, .int 0])), (q_9, .inl (cA, 160, .inl (fun _ => 0)))] : va_W) ++ Z_4) H := hP
  replace hD : va_D A (([(h0, .inr (8, fs4)), (q_8, .inr (9, [.ref q_9, .int 0, .int 0])), (q_9, .inl (cA, 160, .inl (fun _ => 0)))] : va_W) ++ Z_4) := hD
  replace hK : va_K (dC, dI) vwCl [(cA, .int), (cA, .int), (cA, .int), (cA, .int), (cA, .int)] s := hK
  refine W.widen (k := 10) (n := 815) (Nat.le_of_ble_eq_true rfl) (Nat.le_of_ble_eq_true rfl) ?_
  refine va_putF (D := (dC, dI)) (ci := 8) (v := .ref q_8) (ty := (.object "MatroidDeskModel$Num")) (C := "MatroidDeskModel") (T := px_T8) (N := 53) hx hb htw px_in8 px_ty8 px_tyok8 px_nm8 hown hK hP hD hS 0 rfl rfl 4 (by decide) (htw _ px_w413) (fun _ h9 => h9) rfl hin rfl (by decide +kernel) rfl rfl (by rw [hlen]; decide) px_d62_56 (fun H locs hP hD hS => ?_)
  replace hP : va_P (dC, dI) vwCl (([(h0, .inr (8, (fs4.set 4 (.ref q_8)))), (q_8, .inr (9, [.ref q_9, .int 0, .int 0])), (q_9, .inl (cA, 160, .inl (fun _ => 0)))] : va_W) ++ Z_4) H := hP
  replace hD : va_D A (([(h0, .inr (8, (fs4.set 4 (.ref q_8)))), (q_8, .inr (9, [.ref q_9, .int 0, .int 0])), (q_9, .inl (cA, 160, .inl (fun _ => 0)))] : va_W) ++ Z_4) := hD
  obtain ⟨fs5, efs_5⟩ : ∃ z : List Value, z = (fs4.set 4 (.ref q_8)) := ⟨_, rfl⟩
  rw [← efs_5] at hP hD
  replace hlen : fs5.length = 53 := by rw [efs_5]; exact px_sl hlen
  replace efs_5 : fs5 = [.ref q, .ref q_2, .ref q_4, .ref q_6, .ref q_8, .null, .null, .null, .null, .null, .int 0, .int 0, .int 0, .null, .null, .null, .null, .null, .null, .null, .null, .null, .null, .null, .null, .null, .null, .null, .null, .null, .null, .null, .int 0, .int 0, .null, .null, .null, .int 0, .int 0, .int 0, .int 0, .int 0, .int 0, .int 0, .null, .null, .null, .int 0, .null, .int 0, .null, .int 0, .int 0] := by rw [efs_5, efs_4]; rfl
  clear efs_4
  obtain ⟨Z_5, eZ_5⟩ : ∃ z : va_W, z = ([(q_8, .inr (9, [.ref q_9, .int 0, .int 0])), (q_9, .inl (cA, 160, .inl (fun _ => 0)))] : va_W) ++ Z_4 := ⟨_, rfl⟩
  replace hP : va_P (dC, dI) vwCl (([(h0, .inr (8, fs5))] : va_W) ++ Z_5) H := by rw [eZ_5]; exact hP
  replace hD : va_D A (([(h0, .inr (8, fs5))] : va_W) ++ Z_5) := by rw [eZ_5]; exact hD
  replace eZ_5 : Z_5 = [(q_8, .inr (9, [.ref q_9, .int 0, .int 0])), (q_9, .inl (cA, 160, .inl (fun _ => 0))), (q_6, .inr (9, [.ref q_7, .int 0, .int 0])), (q_7, .inl (cA, 160, .inl (fun _ => 0))), (q_4, .inr (9, [.ref q_5, .int 0, .int 0])), (q_5, .inl (cA, 160, .inl (fun _ => 0))), (q_2, .inr (9, [.ref q_3, .int 0, .int 0])), (q_3, .inl (cA, 160, .inl (fun _ => 0))), (q, .inr (9, [.ref q_1, .int 0, .int 0])), (q_1, .inl (cA, 160, .inl (fun _ => 0)))] := by rw [eZ_5, eZ_4]; rfl
  clear eZ_4
  refine lv_aload_n hx hb px_d62_59 rfl (lv_at hl 0 rfl) ?_
  refine va_new (ci := 9) (fs := [.null, .int 0, .int 0]) (C := "MatroidDeskModel$Num") (T := px_T9) (N := 3) hx hb htw px_in9 px_ty9 px_tyok9 hown (htw _ px_w500) (htw _ px_w150) (htw _ px_w149) hK hP hD hS hA rfl px_df9 (Nat.le_of_ble_eq_true rfl) (Nat.le_of_ble_eq_true rfl) px_d62_60 (fun q_10 H hP hD hS => ?_)
  replace hP := hP.swap
  replace hD := hD.swap
  replace hP : va_P (dC, dI) vwCl (([(h0, .inr (8, fs5)), (q_10, .inr (9, [.null, .int 0, .int 0]))] : va_W) ++ Z_5) H := hP
  replace hD : va_D A (([(h0, .inr (8, fs5)), (q_10, .inr (9, [.null, .int 0, .int 0]))] : va_W) ++ Z_5) := hD
  refine W.widen (k := 11) (n := 818) (Nat.le_of_ble_eq_true rfl) (Nat.le_of_ble_eq_true rfl) ?_
  refine lv_dup hx hb px_d62_63 rfl ?_
  replace hPc := hP.sub (ws' := [(q_10, .inr (9, [.null, .int 0, .int 0]))]) [1] rfl
  replace hDc := hD.sub (ws' := [(q_10, .inr (9, [.null, .int 0, .int 0]))]) [1] (by decide) rfl
  replace hKc := hK.sub (tys' := []) [] rfl
  replace hFc := va_free (wc := [(q_10, .inr (9, [.null, .int 0, .int 0]))]) hD hS hA [1] rfl
  refine va_callv (va_runIN (As := []) (rest := [.ref q_10, .ref h0]) ⟨hx, hb, hml, hown, htw⟩ (px_Num_init l dC dI H.size q_10) ⟨(va_cnB 0 htw px_g8 rfl rfl rfl (hN.2.1 ("MatroidDeskModel", 152, px_y8, "MatroidDeskModel") px_mm1) (htw _ px_w149) (by decide +kernel) ⟨Nat.le_of_ble_eq_true rfl, Nat.le_of_ble_eq_true rfl⟩), rfl, (htw _ px_w265)⟩ ⟨fun a U g mk q => by obtain ⟨q0, q1, qP, qK, qD, qN⟩ := q; exact ⟨q0, q1, qP, va_K.moved (u := U) (U := U.calling g mk a) (Vm.Alike.refl U.vm) qK, qD, qN.same rfl⟩, fun U hU hW => ⟨rfl, by rw [hU], by rw [hU]; exact hPc, va_K.moved hW.alike hKc, hDc.weaken (fun _ _ _ _ => trivial), hN.warm hW⟩⟩ rfl rfl hl.1 rfl (lv_room (Nat.le_of_ble_eq_true rfl)) px_d62_64 ⟨(Nat.le_of_ble_eq_true rfl), (Nat.le_of_ble_eq_true rfl)⟩) hS (fun q _ h => hFc q h) hFc (fun u t H1 locs ht hvm hw_n hB hz1 hk1 hS => ?_)
  obtain ⟨q_11, cA_5, hP1, hK1, hD1⟩ := hB
  rw [ht] at hP1
  replace hK1 := va_K.moved hvm.symm hK1
  obtain ⟨hP, hD⟩ := va_joinQ (wr := [(h0, .inr (8, fs5))]) (w1 := [(q_10, .inr (9, [.ref q_11, .int 0, .int 0])), (q_11, .inl (cA_5, 160, .inl (fun _ => 0)))]) hP hD [1] [0] rfl rfl (by decide) (by decide) hk1 hFc hP1 hD1
  generalize H1 = H at hP hS ⊢
  replace hK := hK.app hK1
  have eN : cA = cA_5 := (px_cAeq (tys := [(cA, .int)]) (hK.sub (tys' := [(cA, .int), (cA_5, .int)]) [0, 5] rfl) (hK.sub (tys' := [(cA, .int)]) [0] rfl) 0 rfl).symm
  subst eN
  replace hP : va_P (dC, dI) vwCl (([(h0, .inr (8, fs5)), (q_10, .inr (9, [.ref q_11, .int 0, .int 0])), (q_11, .inl (cA, 160, .inl (fun _ => 0)))] : va_W) ++ Z_5) H := hP
  replace hD : va_D A (([(h0, .inr (8, fs5)), (q_10, .inr (9, [.ref q_11, .int 0, .int 0])), (q_11, .inl (cA, 160, .inl (fun _ => 0)))] : va_W) ++ Z_5) := hD
  replace hK : va_K (dC, dI) vwCl [(cA, .int), (cA, .int), (cA, .int), (cA, .int), (cA, .int), (cA, .int)] s := hK
  refine W.widen (k := 12) (n := 978) (Nat.le_of_ble_eq_true rfl) (Nat.le_of_ble_eq_true rfl) ?_
  refine va_putF (D := (dC, dI)) (ci := 8) (v := .ref q_10) (ty := (.object "MatroidDeskModel$Num")) (C := "MatroidDeskModel") (T := px_T8) (N := 53) hx hb htw px_in8 px_ty8 px_tyok8 px_nm8 hown hK hP hD hS 0 rfl rfl 5 (by decide) (htw _ px_w451) (fun _ h9 => h9) rfl hin rfl (by decide +kernel) rfl rfl (by rw [hlen]; decide) px_d62_67 (fun H locs hP hD hS => ?_)
  replace hP : va_P (dC, dI) vwCl (([(h0, .inr (8, (fs5.set 5 (.ref q_10)))), (q_10, .inr (9, [.ref q_11, .int 0, .int 0])), (q_11, .inl (cA, 160, .inl (fun _ => 0)))] : va_W) ++ Z_5) H := hP
  replace hD : va_D A (([(h0, .inr (8, (fs5.set 5 (.ref q_10)))), (q_10, .inr (9, [.ref q_11, .int 0, .int 0])), (q_11, .inl (cA, 160, .inl (fun _ => 0)))] : va_W) ++ Z_5) := hD
  obtain ⟨fs6, efs_6⟩ : ∃ z : List Value, z = (fs5.set 5 (.ref q_10)) := ⟨_, rfl⟩
  rw [← efs_6] at hP hD
  replace hlen : fs6.length = 53 := by rw [efs_6]; exact px_sl hlen
  replace efs_6 : fs6 = [.ref q, .ref q_2, .ref q_4, .ref q_6, .ref q_8, .ref q_10, .null, .null, .null, .null, .int 0, .int 0, .int 0, .null, .null, .null, .null, .null, .null, .null, .null, .null, .null, .null, .null, .null, .null, .null, .null, .null, .null, .null, .int 0, .int 0, .null, .null, .null, .int 0, .int 0, .int 0, .int 0, .int 0, .int 0, .int 0, .null, .null, .null, .int 0, .null, .int 0, .null, .int 0, .int 0] := by rw [efs_6, efs_5]; rfl
  clear efs_5
  obtain ⟨Z_6, eZ_6⟩ : ∃ z : va_W, z = ([(q_10, .inr (9, [.ref q_11, .int 0, .int 0])), (q_11, .inl (cA, 160, .inl (fun _ => 0)))] : va_W) ++ Z_5 := ⟨_, rfl⟩
  replace hP : va_P (dC, dI) vwCl (([(h0, .inr (8, fs6))] : va_W) ++ Z_6) H := by rw [eZ_6]; exact hP
  replace hD : va_D A (([(h0, .inr (8, fs6))] : va_W) ++ Z_6) := by rw [eZ_6]; exact hD
  replace eZ_6 : Z_6 = [(q_10, .inr (9, [.ref q_11, .int 0, .int 0])), (q_11, .inl (cA, 160, .inl (fun _ => 0))), (q_8, .inr (9, [.ref q_9, .int 0, .int 0])), (q_9, .inl (cA, 160, .inl (fun _ => 0))), (q_6, .inr (9, [.ref q_7, .int 0, .int 0])), (q_7, .inl (cA, 160, .inl (fun _ => 0))), (q_4, .inr (9, [.ref q_5, .int 0, .int 0])), (q_5, .inl (cA, 160, .inl (fun _ => 0))), (q_2, .inr (9, [.ref q_3, .int 0, .int 0])), (q_3, .inl (cA, 160, .inl (fun _ => 0))), (q, .inr (9, [.ref q_1, .int 0, .int 0])), (q_1, .inl (cA, 160, .inl (fun _ => 0)))] := by rw [eZ_6, eZ_5]; rfl
  clear eZ_5
  refine lv_aload_n hx hb px_d62_70 rfl (lv_at hl 0 rfl) ?_
  refine va_new (ci := 9) (fs := [.null, .int 0, .int 0]) (C := "MatroidDeskModel$Num") (T := px_T9) (N := 3) hx hb htw px_in9 px_ty9 px_tyok9 hown (htw _ px_w500) (htw _ px_w150) (htw _ px_w149) hK hP hD hS hA rfl px_df9 (Nat.le_of_ble_eq_true rfl) (Nat.le_of_ble_eq_true rfl) px_d62_71 (fun q_12 H hP hD hS => ?_)
  replace hP := hP.swap
  replace hD := hD.swap
  replace hP : va_P (dC, dI) vwCl (([(h0, .inr (8, fs6)), (q_12, .inr (9, [.null, .int 0, .int 0]))] : va_W) ++ Z_6) H := hP
  replace hD : va_D A (([(h0, .inr (8, fs6)), (q_12, .inr (9, [.null, .int 0, .int 0]))] : va_W) ++ Z_6) := hD
  refine W.widen (k := 13) (n := 981) (Nat.le_of_ble_eq_true rfl) (Nat.le_of_ble_eq_true rfl) ?_
  refine lv_dup hx hb px_d62_74 rfl ?_
  replace hPc := hP.sub (ws' := [(q_12, .inr (9, [.null, .int 0, .int 0]))]) [1] rfl
  replace hDc := hD.sub (ws' := [(q_12, .inr (9, [.null, .int 0, .int 0]))]) [1] (by decide) rfl
  replace hKc := hK.sub (tys' := []) [] rfl
  replace hFc := va_free (wc := [(q_12, .inr (9, [.null, .int 0, .int 0]))]) hD hS hA [1] rfl
  refine va_callv (va_runIN (As := []) (rest := [.ref q_12, .ref h0]) ⟨hx, hb, hml, hown, htw⟩ (px_Num_init l dC dI H.size q_12) ⟨(va_cnB 0 htw px_g8 rfl rfl rfl (hN.2.1 ("MatroidDeskModel", 152, px_y8, "MatroidDeskModel") px_mm1) (htw _ px_w149) (by decide +kernel) ⟨Nat.le_of_ble_eq_true rfl, Nat.le_of_ble_eq_true rfl⟩), rfl, (htw _ px_w265)⟩ ⟨fun a U g mk q => by obtain ⟨q0, q1, qP, qK, qD, qN⟩ := q; exact ⟨q0, q1, qP, va_K.moved (u := U) (U := U.calling g mk a) (Vm.Alike.refl U.vm) qK, qD, qN.same rfl⟩, fun U hU hW => ⟨rfl, by rw [hU], by rw [hU]; exact hPc, va_K.moved hW.alike hKc, hDc.weaken (fun _ _ _ _ => trivial), hN.warm hW⟩⟩ rfl rfl hl.1 rfl (lv_room (Nat.le_of_ble_eq_true rfl)) px_d62_75 ⟨(Nat.le_of_ble_eq_true rfl), (Nat.le_of_ble_eq_true rfl)⟩) hS (fun q _ h => hFc q h) hFc (fun u t H1 locs ht hvm hw_n hB hz1 hk1 hS => ?_)
  obtain ⟨q_13, cA_6, hP1, hK1, hD1⟩ := hB
  rw [ht] at hP1
  replace hK1 := va_K.moved hvm.symm hK1
  obtain ⟨hP, hD⟩ := va_joinQ (wr := [(h0, .inr (8, fs6))]) (w1 := [(q_12, .inr (9, [.ref q_13, .int 0, .int 0])), (q_13, .inl (cA_6, 160, .inl (fun _ => 0)))]) hP hD [1] [0] rfl rfl (by decide) (by decide) hk1 hFc hP1 hD1
  generalize H1 = H at hP hS ⊢
  replace hK := hK.app hK1
  have eN : cA = cA_6 := (px_cAeq (tys := [(cA, .int)]) (hK.sub (tys' := [(cA, .int), (cA_6, .int)]) [0, 6] rfl) (hK.sub (tys' := [(cA, .int)]) [0] rfl) 0 rfl).symm
  subst eN
  replace hP : va_P (dC, dI) vwCl (([(h0, .inr (8, fs6)), (q_12, .inr (9, [.ref q_13, .int 0, .int 0])), (q_13, .inl (cA, 160, .inl (fun _ => 0)))] : va_W) ++ Z_6) H := hP
  replace hD : va_D A (([(h0, .inr (8, fs6)), (q_12, .inr (9, [.ref q_13, .int 0, .int 0])), (q_13, .inl (cA, 160, .inl (fun _ => 0)))] : va_W) ++ Z_6) := hD
  replace hK : va_K (dC, dI) vwCl [(cA, .int), (cA, .int), (cA, .int), (cA, .int), (cA, .int), (cA, .int), (cA, .int)] s := hK
  refine W.widen (k := 14) (n := 1141) (Nat.le_of_ble_eq_true rfl) (Nat.le_of_ble_eq_true rfl) ?_
  refine va_putF (D := (dC, dI)) (ci := 8) (v := .ref q_12) (ty := (.object "MatroidDeskModel$Num")) (C := "MatroidDeskModel") (T := px_T8) (N := 53) hx hb htw px_in8 px_ty8 px_tyok8 px_nm8 hown hK hP hD hS 0 rfl rfl 6 (by decide) (htw _ px_w452) (fun _ h9 => h9) rfl hin rfl (by decide +kernel) rfl rfl (by rw [hlen]; decide) px_d62_78 (fun H locs hP hD hS => ?_)
  replace hP : va_P (dC, dI) vwCl (([(h0, .inr (8, (fs6.set 6 (.ref q_12)))), (q_12, .inr (9, [.ref q_13, .int 0, .int 0])), (q_13, .inl (cA, 160, .inl (fun _ => 0)))] : va_W) ++ Z_6) H := hP
  replace hD : va_D A (([(h0, .inr (8, (fs6.set 6 (.ref q_12)))), (q_12, .inr (9, [.ref q_13, .int 0, .int 0])), (q_13, .inl (cA, 160, .inl (fun _ => 0)))] : va_W) ++ Z_6) := hD
  obtain ⟨fs7, efs_7⟩ : ∃ z : List Value, z = (fs6.set 6 (.ref q_12)) := ⟨_, rfl⟩
  rw [← efs_7] at hP hD
  replace hlen : fs7.length = 53 := by rw [efs_7]; exact px_sl hlen
  replace efs_7 : fs7 = [.ref q, .ref q_2, .ref q_4, .ref q_6, .ref q_8, .ref q_10, .ref q_12, .null, .null, .null, .int 0, .int 0, .int 0, .null, .null, .null, .null, .null, .null, .null, .null, .null, .null, .null, .null, .null, .null, .null, .null, .null, .null, .null, .int 0, .int 0, .null, .null, .null, .int 0, .int 0, .int 0, .int 0, .int 0, .int 0, .int 0, .null, .null, .null, .int 0, .null, .int 0, .null, .int 0, .int 0] := by rw [efs_7, efs_6]; rfl
  clear efs_6
  obtain ⟨Z_7, eZ_7⟩ : ∃ z : va_W, z = ([(q_12, .inr (9, [.ref q_13, .int 0, .int 0])), (q_13, .inl (cA, 160, .inl (fun _ => 0)))] : va_W) ++ Z_6 := ⟨_, rfl⟩
  replace hP : va_P (dC, dI) vwCl (([(h0, .inr (8, fs7))] : va_W) ++ Z_7) H := by rw [eZ_7]; exact hP
  replace hD : va_D A (([(h0, .inr (8, fs7))] : va_W) ++ Z_7) := by rw [eZ_7]; exact hD
  replace eZ_7 : Z_7 = [(q_12, .inr (9, [.ref q_13, .int 0, .int 0])), (q_13, .inl (cA, 160, .inl (fun _ => 0))), (q_10, .inr (9, [.ref q_11, .int 0, .int 0])), (q_11, .inl (cA, 160, .inl (fun _ => 0))), (q_8, .inr (9, [.ref q_9, .int 0, .int 0])), (q_9, .inl (cA, 160, .inl (fun _ => 0))), (q_6, .inr (9, [.ref q_7, .int 0, .int 0])), (q_7, .inl (cA, 160, .inl (fun _ => 0))), (q_4, .inr (9, [.ref q_5, .int 0, .int 0])), (q_5, .inl (cA, 160, .inl (fun _ => 0))), (q_2, .inr (9, [.ref q_3, .int 0, .int 0])), (q_3, .inl (cA, 160, .inl (fun _ => 0))), (q, .inr (9, [.ref q_1, .int 0, .int 0])), (q_1, .inl (cA, 160, .inl (fun _ => 0)))] := by rw [eZ_7, eZ_6]; rfl
  clear eZ_6
  refine lv_aload_n hx hb px_d62_81 rfl (lv_at hl 0 rfl) ?_
  refine va_new (ci := 9) (fs := [.null, .int 0, .int 0]) (C := "MatroidDeskModel$Num") (T := px_T9) (N := 3) hx hb htw px_in9 px_ty9 px_tyok9 hown (htw _ px_w500) (htw _ px_w150) (htw _ px_w149) hK hP hD hS hA rfl px_df9 (Nat.le_of_ble_eq_true rfl) (Nat.le_of_ble_eq_true rfl) px_d62_82 (fun q_14 H hP hD hS => ?_)
  replace hP := hP.swap
  replace hD := hD.swap
  replace hP : va_P (dC, dI) vwCl (([(h0, .inr (8, fs7)), (q_14, .inr (9, [.null, .int 0, .int 0]))] : va_W) ++ Z_7) H := hP
  replace hD : va_D A (([(h0, .inr (8, fs7)), (q_14, .inr (9, [.null, .int 0, .int 0]))] : va_W) ++ Z_7) := hD
  refine W.widen (k := 15) (n := 1144) (Nat.le_of_ble_eq_true rfl) (Nat.le_of_ble_eq_true rfl) ?_
  refine lv_dup hx hb px_d62_85 rfl ?_
  replace hPc := hP.sub (ws' := [(q_14, .inr (9, [.null, .int 0, .int 0]))]) [1] rfl
  replace hDc := hD.sub (ws' := [(q_14, .inr (9, [.null, .int 0, .int 0]))]) [1] (by decide) rfl
  replace hKc := hK.sub (tys' := []) [] rfl
  replace hFc := va_free (wc := [(q_14, .inr (9, [.null, .int 0, .int 0]))]) hD hS hA [1] rfl
  refine va_callv (va_runIN (As := []) (rest := [.ref q_14, .ref h0]) ⟨hx, hb, hml, hown, htw⟩ (px_Num_init l dC dI H.size q_14) ⟨(va_cnB 0 htw px_g8 rfl rfl rfl (hN.2.1 ("MatroidDeskModel", 152, px_y8, "MatroidDeskModel") px_mm1) (htw _ px_w149) (by decide +kernel) ⟨Nat.le_of_ble_eq_true rfl, Nat.le_of_ble_eq_true rfl⟩), rfl, (htw _ px_w265)⟩ ⟨fun a U g mk q => by obtain ⟨q0, q1, qP, qK, qD, qN⟩ := q; exact ⟨q0, q1, qP, va_K.moved (u := U) (U := U.calling g mk a) (Vm.Alike.refl U.vm) qK, qD, qN.same rfl⟩, fun U hU hW => ⟨rfl, by rw [hU], by rw [hU]; exact hPc, va_K.moved hW.alike hKc, hDc.weaken (fun _ _ _ _ => trivial), hN.warm hW⟩⟩ rfl rfl hl.1 rfl (lv_room (Nat.le_of_ble_eq_true rfl)) px_d62_86 ⟨(Nat.le_of_ble_eq_true rfl), (Nat.le_of_ble_eq_true rfl)⟩) hS (fun q _ h => hFc q h) hFc (fun u t H1 locs ht hvm hw_n hB hz1 hk1 hS => ?_)
  obtain ⟨q_15, cA_7, hP1, hK1, hD1⟩ := hB
  rw [ht] at hP1
  replace hK1 := va_K.moved hvm.symm hK1
  obtain ⟨hP, hD⟩ := va_joinQ (wr := [(h0, .inr (8, fs7))]) (w1 := [(q_14, .inr (9, [.ref q_15, .int 0, .int 0])), (q_15, .inl (cA_7, 160, .inl (fun _ => 0)))]) hP hD [1] [0] rfl rfl (by decide) (by decide) hk1 hFc hP1 hD1
  generalize H1 = H at hP hS ⊢
  replace hK := hK.app hK1
  have eN : cA = cA_7 := (px_cAeq (tys := [(cA, .int)]) (hK.sub (tys' := [(cA, .int), (cA_7, .int)]) [0, 7] rfl) (hK.sub (tys' := [(cA, .int)]) [0] rfl) 0 rfl).symm
  subst eN
  replace hP : va_P (dC, dI) vwCl (([(h0, .inr (8, fs7)), (q_14, .inr (9, [.ref q_15, .int 0, .int 0])), (q_15, .inl (cA, 160, .inl (fun _ => 0)))] : va_W) ++ Z_7) H := hP
  replace hD : va_D A (([(h0, .inr (8, fs7)), (q_14, .inr (9, [.ref q_15, .int 0, .int 0])), (q_15, .inl (cA, 160, .inl (fun _ => 0)))] : va_W) ++ Z_7) := hD
  replace hK : va_K (dC, dI) vwCl [(cA, .int), (cA, .int), (cA, .int), (cA, .int), (cA, .int), (cA, .int), (cA, .int), (cA, .int)] s := hK
  refine W.widen (k := 16) (n := 1304) (Nat.le_of_ble_eq_true rfl) (Nat.le_of_ble_eq_true rfl) ?_
  refine va_putF (D := (dC, dI)) (ci := 8) (v := .ref q_14) (ty := (.object "MatroidDeskModel$Num")) (C := "MatroidDeskModel") (T := px_T8) (N := 53) hx hb htw px_in8 px_ty8 px_tyok8 px_nm8 hown hK hP hD hS 0 rfl rfl 7 (by decide) (htw _ px_w459) (fun _ h9 => h9) rfl hin rfl (by decide +kernel) rfl rfl (by rw [hlen]; decide) px_d62_89 (fun H locs hP hD hS => ?_)
  replace hP : va_P (dC, dI) vwCl (([(h0, .inr (8, (fs7.set 7 (.ref q_14)))), (q_14, .inr (9, [.ref q_15, .int 0, .int 0])), (q_15, .inl (cA, 160, .inl (fun _ => 0)))] : va_W) ++ Z_7) H := hP
  replace hD : va_D A (([(h0, .inr (8, (fs7.set 7 (.ref q_14)))), (q_14, .inr (9, [.ref q_15, .int 0, .int 0])), (q_15, .inl (cA, 160, .inl (fun _ => 0)))] : va_W) ++ Z_7) := hD
  obtain ⟨fs8, efs_8⟩ : ∃ z : List Value, z = (fs7.set 7 (.ref q_14)) := ⟨_, rfl⟩
  rw [← efs_8] at hP hD
  replace hlen : fs8.length = 53 := by rw [efs_8]; exact px_sl hlen
  replace efs_8 : fs8 = [.ref q, .ref q_2, .ref q_4, .ref q_6, .ref q_8, .ref q_10, .ref q_12, .ref q_14, .null, .null, .int 0, .int 0, .int 0, .null, .null, .null, .null, .null, .null, .null, .null, .null, .null, .null, .null, .null, .null, .null, .null, .null, .null, .null, .int 0, .int 0, .null, .null, .null, .int 0, .int 0, .int 0, .int 0, .int 0, .int 0, .int 0, .null, .null, .null, .int 0, .null, .int 0, .null, .int 0, .int 0] := by rw [efs_8, efs_7]; rfl
  clear efs_7
  obtain ⟨Z_8, eZ_8⟩ : ∃ z : va_W, z = ([(q_14, .inr (9, [.ref q_15, .int 0, .int 0])), (q_15, .inl (cA, 160, .inl (fun _ => 0)))] : va_W) ++ Z_7 := ⟨_, rfl⟩
  replace hP : va_P (dC, dI) vwCl (([(h0, .inr (8, fs8))] : va_W) ++ Z_8) H := by rw [eZ_8]; exact hP
  replace hD : va_D A (([(h0, .inr (8, fs8))] : va_W) ++ Z_8) := by rw [eZ_8]; exact hD
  replace eZ_8 : Z_8 = [(q_14, .inr (9, [.ref q_15, .int 0, .int 0])), (q_15, .inl (cA, 160, .inl (fun _ => 0))), (q_12, .inr (9, [.ref q_13, .int 0, .int 0])), (q_13, .inl (cA, 160, .inl (fun _ => 0))), (q_10, .inr (9, [.ref q_11, .int 0, .int 0])), (q_11, .inl (cA, 160, .inl (fun _ => 0))), (q_8, .inr (9, [.ref q_9, .int 0, .int 0])), (q_9, .inl (cA, 160, .inl (fun _ => 0))), (q_6, .inr (9, [.ref q_7, .int 0, .int 0])), (q_7, .inl (cA, 160, .inl (fun _ => 0))), (q_4, .inr (9, [.ref q_5, .int 0, .int 0])), (q_5, .inl (cA, 160, .inl (fun _ => 0))), (q_2, .inr (9, [.ref q_3, .int 0, .int 0])), (q_3, .inl (cA, 160, .inl (fun _ => 0))), (q, .inr (9, [.ref q_1, .int 0, .int 0])), (q_1, .inl (cA, 160, .inl (fun _ => 0)))] := by rw [eZ_8, eZ_7]; rfl
  clear eZ_7
  refine lv_aload_n hx hb px_d62_92 rfl (lv_at hl 0 rfl) ?_
  refine lv_sipush (v := 156) hx hb px_d62_93 (by decide) ?_
  refine va_newq (n := 156) (N' := 156) hx hb hown (htw _ px_w500) (hN.2.2 "MatroidDeskModel$Num" (by decide)) hK hP hD hS hA (by decide +kernel) (by decide +kernel) (by decide +kernel) (Nat.le_of_ble_eq_true rfl) (Nat.le_of_ble_eq_true rfl) px_d62_96 (fun q_16 cA_8 H hK hP hD hS => ?_)
  replace hP := hP.swap
  replace hD := hD.swap
  replace hP : va_P (dC, dI) vwCl (([(h0, .inr (8, fs8)), (q_16, .inl (cA_8, 156, .inr (.inr (.inr (.inr (fun _ => none))))))] : va_W) ++ Z_8) H := hP
  replace hD : va_D A (([(h0, .inr (8, fs8)), (q_16, .inl (cA_8, 156, .inr (.inr (.inr (.inr (fun _ => none))))))] : va_W) ++ Z_8) := hD
  replace hK : va_K (dC, dI) vwCl [(cA, .int), (cA, .int), (cA, .int), (cA, .int), (cA, .int), (cA, .int), (cA, .int), (cA, .int), (cA_8, .object "MatroidDeskModel$Num")] s := hK
  refine W.widen (k := 17) (n := 1460) (Nat.le_of_ble_eq_true rfl) (Nat.le_of_ble_eq_true rfl) ?_
  refine va_putF (D := (dC, dI)) (ci := 8) (v := .ref q_16) (ty := (.array (.object "MatroidDeskModel$Num"))) (C := "MatroidDeskModel") (T := px_T8) (N := 53) hx hb htw px_in8 px_ty8 px_tyok8 px_nm8 hown hK hP hD hS 0 rfl rfl 8 (by decide) (htw _ px_w424) (fun _ h9 => h9) rfl hin rfl (by decide +kernel) rfl rfl (by rw [hlen]; decide) px_d62_99 (fun H locs hP hD hS => ?_)
  replace hP : va_P (dC, dI) vwCl (([(h0, .inr (8, (fs8.set 8 (.ref q_16)))), (q_16, .inl (cA_8, 156, .inr (.inr (.inr (.inr (fun _ => none))))))] : va_W) ++ Z_8) H := hP
  replace hD : va_D A (([(h0, .inr (8, (fs8.set 8 (.ref q_16)))), (q_16, .inl (cA_8, 156, .inr (.inr (.inr (.inr (fun _ => none))))))] : va_W) ++ Z_8) := hD
  obtain ⟨fs9, efs_9⟩ : ∃ z : List Value, z = (fs8.set 8 (.ref q_16)) := ⟨_, rfl⟩
  rw [← efs_9] at hP hD
  have hk_8 : fs9[8]? = some (.ref q_16) := by rw [efs_9]; exact px_ss hlen (by decide)
  replace hlen : fs9.length = 53 := by rw [efs_9]; exact px_sl hlen
  replace efs_9 : fs9 = [.ref q, .ref q_2, .ref q_4, .ref q_6, .ref q_8, .ref q_10, .ref q_12, .ref q_14, .ref q_16, .null, .int 0, .int 0, .int 0, .null, .null, .null, .null, .null, .null, .null, .null, .null, .null, .null, .null, .null, .null, .null, .null, .null, .null, .null, .int 0, .int 0, .null, .null, .null, .int 0, .int 0, .int 0, .int 0, .int 0, .int 0, .int 0, .null, .null, .null, .int 0, .null, .int 0, .null, .int 0, .int 0] := by rw [efs_9, efs_8]; rfl
  clear efs_8
  refine lv_aload_n hx hb px_d62_102 rfl (lv_at hl 0 rfl) ?_
  refine lv_sipush (v := 156) hx hb px_d62_103 (by decide) ?_
  refine va_newa (atype := .int) (ty := .int) (n := 156) (N' := 156) (a0 := (156, .inl (fun _ => 0))) hx hb (htw _ px_w2) rfl hK hP hD hS hA (fun _ => rfl) (by decide +kernel) (by decide +kernel) (by decide +kernel) (Nat.le_of_ble_eq_true rfl) (Nat.le_of_ble_eq_true rfl) px_d62_106 (fun q_17 cA_9 H hK hP hD hS => ?_)
  replace hP := hP.swap
  replace hD := hD.swap
  replace hP : va_P (dC, dI) vwCl (([(h0, .inr (8, fs9)), (q_16, .inl (cA_8, 156, .inr (.inr (.inr (.inr (fun _ => none)))))), (q_17, .inl (cA_9, 156, .inl (fun _ => 0)))] : va_W) ++ Z_8) H := hP
  replace hD : va_D A (([(h0, .inr (8, fs9)), (q_16, .inl (cA_8, 156, .inr (.inr (.inr (.inr (fun _ => none)))))), (q_17, .inl (cA_9, 156, .inl (fun _ => 0)))] : va_W) ++ Z_8) := hD
  replace hK : va_K (dC, dI) vwCl [(cA, .int), (cA, .int), (cA, .int), (cA, .int), (cA, .int), (cA, .int), (cA, .int), (cA, .int), (cA_8, .object "MatroidDeskModel$Num"), (cA_9, .int)] s := hK
  refine W.widen (k := 18) (n := 1616) (Nat.le_of_ble_eq_true rfl) (Nat.le_of_ble_eq_true rfl) ?_
  refine va_putF (D := (dC, dI)) (ci := 8) (v := .ref q_17) (ty := (.array .int)) (C := "MatroidDeskModel") (T := px_T8) (N := 53) hx hb htw px_in8 px_ty8 px_tyok8 px_nm8 hown hK hP hD hS 0 rfl rfl 9 (by decide) (htw _ px_w436) (fun _ h9 => h9) rfl hin rfl (by decide +kernel) rfl rfl (by rw [hlen]; decide) px_d62_108 (fun H locs hP hD hS => ?_)
  replace hP : va_P (dC, dI) vwCl (([(h0, .inr (8, (fs9.set 9 (.ref q_17)))), (q_16, .inl (cA_8, 156, .inr (.inr (.inr (.inr (fun _ => none)))))), (q_17, .inl (cA_9, 156, .inl (fun _ => 0)))] : va_W) ++ Z_8) H := hP
  replace hD : va_D A (([(h0, .inr (8, (fs9.set 9 (.ref q_17)))), (q_16, .inl (cA_8, 156, .inr (.inr (.inr (.inr (fun _ => none)))))), (q_17, .inl (cA_9, 156, .inl (fun _ => 0)))] : va_W) ++ Z_8) := hD
  obtain ⟨fs10, efs_10⟩ : ∃ z : List Value, z = (fs9.set 9 (.ref q_17)) := ⟨_, rfl⟩
  rw [← efs_10] at hP hD
  replace hk_8 : fs10[8]? = some (.ref q_16) := by rw [efs_10]; exact (px_sn (by decide)).trans hk_8
  replace hlen : fs10.length = 53 := by rw [efs_10]; exact px_sl hlen
  replace efs_10 : fs10 = [.ref q, .ref q_2, .ref q_4, .ref q_6, .ref q_8, .ref q_10, .ref q_12, .ref q_14, .ref q_16, .ref q_17, .int 0, .int 0, .int 0, .null, .null, .null, .null, .null, .null, .null, .null, .null, .null, .null, .null, .null, .null, .null, .null, .null, .null, .null, .int 0, .int 0, .null, .null, .null, .int 0, .int 0, .int 0, .int 0, .int 0, .int 0, .int 0, .null, .null, .null, .int 0, .null, .int 0, .null, .int 0, .int 0] := by rw [efs_10, efs_9]; rfl
  clear efs_9
  obtain ⟨Z_9, eZ_9⟩ : ∃ z : va_W, z = ([(q_17, .inl (cA_9, 156, .inl (fun _ => 0)))] : va_W) ++ Z_8 := ⟨_, rfl⟩
  replace hP : va_P (dC, dI) vwCl (([(h0, .inr (8, fs10)), (q_16, .inl (cA_8, 156, .inr (.inr (.inr (.inr (fun _ => none))))))] : va_W) ++ Z_9) H := by rw [eZ_9]; exact hP
  replace hD : va_D A (([(h0, .inr (8, fs10)), (q_16, .inl (cA_8, 156, .inr (.inr (.inr (.inr (fun _ => none))))))] : va_W) ++ Z_9) := by rw [eZ_9]; exact hD
  replace eZ_9 : Z_9 = [(q_17, .inl (cA_9, 156, .inl (fun _ => 0))), (q_14, .inr (9, [.ref q_15, .int 0, .int 0])), (q_15, .inl (cA, 160, .inl (fun _ => 0))), (q_12, .inr (9, [.ref q_13, .int 0, .int 0])), (q_13, .inl (cA, 160, .inl (fun _ => 0))), (q_10, .inr (9, [.ref q_11, .int 0, .int 0])), (q_11, .inl (cA, 160, .inl (fun _ => 0))), (q_8, .inr (9, [.ref q_9, .int 0, .int 0])), (q_9, .inl (cA, 160, .inl (fun _ => 0))), (q_6, .inr (9, [.ref q_7, .int 0, .int 0])), (q_7, .inl (cA, 160, .inl (fun _ => 0))), (q_4, .inr (9, [.ref q_5, .int 0, .int 0])), (q_5, .inl (cA, 160, .inl (fun _ => 0))), (q_2, .inr (9, [.ref q_3, .int 0, .int 0])), (q_3, .inl (cA, 160, .inl (fun _ => 0))), (q, .inr (9, [.ref q_1, .int 0, .int 0])), (q_1, .inl (cA, 160, .inl (fun _ => 0)))] := by rw [eZ_9, eZ_8]; rfl
  clear eZ_8
  refine lv_aload_n hx hb px_d62_111 rfl (lv_at hl 0 rfl) ?_
  refine lv_bipush (v := 13) hx hb px_d62_112 (by decide) ?_
  refine va_newa (atype := .int) (ty := .int) (n := 13) (N' := 13) (a0 := (13, .inl (fun _ => 0))) hx hb (htw _ px_w2) rfl hK hP hD hS hA (fun _ => rfl) (by decide +kernel) (by decide +kernel) (by decide +kernel) (Nat.le_of_ble_eq_true rfl) (Nat.le_of_ble_eq_true rfl) px_d62_114 (fun q_18 cA_10 H hK hP hD hS => ?_)
  replace hP := hP.swap
  replace hD := hD.swap
  replace hP : va_P (dC, dI) vwCl (([(h0, .inr (8, fs10)), (q_16, .inl (cA_8, 156, .inr (.inr (.inr (.inr (fun _ => none)))))), (q_18, .inl (cA_10, 13, .inl (fun _ => 0)))] : va_W) ++ Z_9) H := hP
  replace hD : va_D A (([(h0, .inr (8, fs10)), (q_16, .inl (cA_8, 156, .inr (.inr (.inr (.inr (fun _ => none)))))), (q_18, .inl (cA_10, 13, .inl (fun _ => 0)))] : va_W) ++ Z_9) := hD
  replace hK : va_K (dC, dI) vwCl [(cA, .int), (cA, .int), (cA, .int), (cA, .int), (cA, .int), (cA, .int), (cA, .int), (cA, .int), (cA_8, .object "MatroidDeskModel$Num"), (cA_9, .int), (cA_10, .int)] s := hK
  refine W.widen (k := 19) (n := 1629) (Nat.le_of_ble_eq_true rfl) (Nat.le_of_ble_eq_true rfl) ?_
  refine va_putF (D := (dC, dI)) (ci := 8) (v := .ref q_18) (ty := (.array .int)) (C := "MatroidDeskModel") (T := px_T8) (N := 53) hx hb htw px_in8 px_ty8 px_tyok8 px_nm8 hown hK hP hD hS 0 rfl rfl 13 (by decide) (htw _ px_w469) (fun _ h9 => h9) rfl hin rfl (by decide +kernel) rfl rfl (by rw [hlen]; decide) px_d62_116 (fun H locs hP hD hS => ?_)
  replace hP : va_P (dC, dI) vwCl (([(h0, .inr (8, (fs10.set 13 (.ref q_18)))), (q_16, .inl (cA_8, 156, .inr (.inr (.inr (.inr (fun _ => none)))))), (q_18, .inl (cA_10, 13, .inl (fun _ => 0)))] : va_W) ++ Z_9) H := hP
  replace hD : va_D A (([(h0, .inr (8, (fs10.set 13 (.ref q_18)))), (q_16, .inl (cA_8, 156, .inr (.inr (.inr (.inr (fun _ => none)))))), (q_18, .inl (cA_10, 13, .inl (fun _ => 0)))] : va_W) ++ Z_9) := hD
  obtain ⟨fs11, efs_11⟩ : ∃ z : List Value, z = (fs10.set 13 (.ref q_18)) := ⟨_, rfl⟩
  rw [← efs_11] at hP hD
  replace hk_8 : fs11[8]? = some (.ref q_16) := by rw [efs_11]; exact (px_sn (by decide)).trans hk_8
  replace hlen : fs11.length = 53 := by rw [efs_11]; exact px_sl hlen
  replace efs_11 : fs11 = [.ref q, .ref q_2, .ref q_4, .ref q_6, .ref q_8, .ref q_10, .ref q_12, .ref q_14, .ref q_16, .ref q_17, .int 0, .int 0, .int 0, .ref q_18, .null, .null, .null, .null, .null, .null, .null, .null, .null, .null, .null, .null, .null, .null, .null, .null, .null, .null, .int 0, .int 0, .null, .null, .null, .int 0, .int 0, .int 0, .int 0, .int 0, .int 0, .int 0, .null, .null, .null, .int 0, .null, .int 0, .null, .int 0, .int 0] := by rw [efs_11, efs_10]; rfl
  clear efs_10
  obtain ⟨Z_10, eZ_10⟩ : ∃ z : va_W, z = ([(q_18, .inl (cA_10, 13, .inl (fun _ => 0)))] : va_W) ++ Z_9 := ⟨_, rfl⟩
  replace hP : va_P (dC, dI) vwCl (([(h0, .inr (8, fs11)), (q_16, .inl (cA_8, 156, .inr (.inr (.inr (.inr (fun _ => none))))))] : va_W) ++ Z_10) H := by rw [eZ_10]; exact hP
  replace hD : va_D A (([(h0, .inr (8, fs11)), (q_16, .inl (cA_8, 156, .inr (.inr (.inr (.inr (fun _ => none))))))] : va_W) ++ Z_10) := by rw [eZ_10]; exact hD
  replace eZ_10 : Z_10 = [(q_18, .inl (cA_10, 13, .inl (fun _ => 0))), (q_17, .inl (cA_9, 156, .inl (fun _ => 0))), (q_14, .inr (9, [.ref q_15, .int 0, .int 0])), (q_15, .inl (cA, 160, .inl (fun _ => 0))), (q_12, .inr (9, [.ref q_13, .int 0, .int 0])), (q_13, .inl (cA, 160, .inl (fun _ => 0))), (q_10, .inr (9, [.ref q_11, .int 0, .int 0])), (q_11, .inl (cA, 160, .inl (fun _ => 0))), (q_8, .inr (9, [.ref q_9, .int 0, .int 0])), (q_9, .inl (cA, 160, .inl (fun _ => 0))), (q_6, .inr (9, [.ref q_7, .int 0, .int 0])), (q_7, .inl (cA, 160, .inl (fun _ => 0))), (q_4, .inr (9, [.ref q_5, .int 0, .int 0])), (q_5, .inl (cA, 160, .inl (fun _ => 0))), (q_2, .inr (9, [.ref q_3, .int 0, .int 0])), (q_3, .inl (cA, 160, .inl (fun _ => 0))), (q, .inr (9, [.ref q_1, .int 0, .int 0])), (q_1, .inl (cA, 160, .inl (fun _ => 0)))] := by rw [eZ_10, eZ_9]; rfl
  clear eZ_9
  refine lv_aload_n hx hb px_d62_119 rfl (lv_at hl 0 rfl) ?_
  refine lv_bipush (v := 12) hx hb px_d62_120 (by decide) ?_
  refine va_newa (atype := .int) (ty := .int) (n := 12) (N' := 12) (a0 := (12, .inl (fun _ => 0))) hx hb (htw _ px_w2) rfl hK hP hD hS hA (fun _ => rfl) (by decide +kernel) (by decide +kernel) (by decide +kernel) (Nat.le_of_ble_eq_true rfl) (Nat.le_of_ble_eq_true rfl) px_d62_122 (fun q_19 cA_11 H hK hP hD hS => ?_)
  replace hP := hP.swap
  replace hD := hD.swap
  replace hP : va_P (dC, dI) vwCl (([(h0, .inr (8, fs11)), (q_16, .inl (cA_8, 156, .inr (.inr (.inr (.inr (fun _ => none)))))), (q_19, .inl (cA_11, 12, .inl (fun _ => 0)))] : va_W) ++ Z_10) H := hP
  replace hD : va_D A (([(h0, .inr (8, fs11)), (q_16, .inl (cA_8, 156, .inr (.inr (.inr (.inr (fun _ => none)))))), (q_19, .inl (cA_11, 12, .inl (fun _ => 0)))] : va_W) ++ Z_10) := hD
  replace hK : va_K (dC, dI) vwCl [(cA, .int), (cA, .int), (cA, .int), (cA, .int), (cA, .int), (cA, .int), (cA, .int), (cA, .int), (cA_8, .object "MatroidDeskModel$Num"), (cA_9, .int), (cA_10, .int), (cA_11, .int)] s := hK
  refine W.widen (k := 20) (n := 1641) (Nat.le_of_ble_eq_true rfl) (Nat.le_of_ble_eq_true rfl) ?_
  refine va_putF (D := (dC, dI)) (ci := 8) (v := .ref q_19) (ty := (.array .int)) (C := "MatroidDeskModel") (T := px_T8) (N := 53) hx hb htw px_in8 px_ty8 px_tyok8 px_nm8 hown hK hP hD hS 0 rfl rfl 14 (by decide) (htw _ px_w479) (fun _ h9 => h9) rfl hin rfl (by decide +kernel) rfl rfl (by rw [hlen]; decide) px_d62_124 (fun H locs hP hD hS => ?_)
  replace hP : va_P (dC, dI) vwCl (([(h0, .inr (8, (fs11.set 14 (.ref q_19)))), (q_16, .inl (cA_8, 156, .inr (.inr (.inr (.inr (fun _ => none)))))), (q_19, .inl (cA_11, 12, .inl (fun _ => 0)))] : va_W) ++ Z_10) H := hP
  replace hD : va_D A (([(h0, .inr (8, (fs11.set 14 (.ref q_19)))), (q_16, .inl (cA_8, 156, .inr (.inr (.inr (.inr (fun _ => none)))))), (q_19, .inl (cA_11, 12, .inl (fun _ => 0)))] : va_W) ++ Z_10) := hD
  obtain ⟨fs12, efs_12⟩ : ∃ z : List Value, z = (fs11.set 14 (.ref q_19)) := ⟨_, rfl⟩
  rw [← efs_12] at hP hD
  replace hk_8 : fs12[8]? = some (.ref q_16) := by rw [efs_12]; exact (px_sn (by decide)).trans hk_8
  replace hlen : fs12.length = 53 := by rw [efs_12]; exact px_sl hlen
  replace efs_12 : fs12 = [.ref q, .ref q_2, .ref q_4, .ref q_6, .ref q_8, .ref q_10, .ref q_12, .ref q_14, .ref q_16, .ref q_17, .int 0, .int 0, .int 0, .ref q_18, .ref q_19, .null, .null, .null, .null, .null, .null, .null, .null, .null, .null, .null, .null, .null, .null, .null, .null, .null, .int 0, .int 0, .null, .null, .null, .int 0, .int 0, .int 0, .int 0, .int 0, .int 0, .int 0, .null, .null, .null, .int 0, .null, .int 0, .null, .int 0, .int 0] := by rw [efs_12, efs_11]; rfl
  clear efs_11
  obtain ⟨Z_11, eZ_11⟩ : ∃ z : va_W, z = ([(q_19, .inl (cA_11, 12, .inl (fun _ => 0)))] : va_W) ++ Z_10 := ⟨_, rfl⟩
  replace hP : va_P (dC, dI) vwCl (([(h0, .inr (8, fs12)), (q_16, .inl (cA_8, 156, .inr (.inr (.inr (.inr (fun _ => none))))))] : va_W) ++ Z_11) H := by rw [eZ_11]; exact hP
  replace hD : va_D A (([(h0, .inr (8, fs12)), (q_16, .inl (cA_8, 156, .inr (.inr (.inr (.inr (fun _ => none))))))] : va_W) ++ Z_11) := by rw [eZ_11]; exact hD
  replace eZ_11 : Z_11 = [(q_19, .inl (cA_11, 12, .inl (fun _ => 0))), (q_18, .inl (cA_10, 13, .inl (fun _ => 0))), (q_17, .inl (cA_9, 156, .inl (fun _ => 0))), (q_14, .inr (9, [.ref q_15, .int 0, .int 0])), (q_15, .inl (cA, 160, .inl (fun _ => 0))), (q_12, .inr (9, [.ref q_13, .int 0, .int 0])), (q_13, .inl (cA, 160, .inl (fun _ => 0))), (q_10, .inr (9, [.ref q_11, .int 0, .int 0])), (q_11, .inl (cA, 160, .inl (fun _ => 0))), (q_8, .inr (9, [.ref q_9, .int 0, .int 0])), (q_9, .inl (cA, 160, .inl (fun _ => 0))), (q_6, .inr (9, [.ref q_7, .int 0, .int 0])), (q_7, .inl (cA, 160, .inl (fun _ => 0))), (q_4, .inr (9, [.ref q_5, .int 0, .int 0])), (q_5, .inl (cA, 160, .inl (fun _ => 0))), (q_2, .inr (9, [.ref q_3, .int 0, .int 0])), (q_3, .inl (cA, 160, .inl (fun _ => 0))), (q, .inr (9, [.ref q_1, .int 0, .int 0])), (q_1, .inl (cA, 160, .inl (fun _ => 0)))] := by rw [eZ_11, eZ_10]; rfl
  clear eZ_10
  refine lv_aload_n hx hb px_d62_127 rfl (lv_at hl 0 rfl) ?_
  refine lv_bipush (v := 12) hx hb px_d62_128 (by decide) ?_
  refine va_newa (atype := .int) (ty := .int) (n := 12) (N' := 12) (a0 := (12, .inl (fun _ => 0))) hx hb (htw _ px_w2) rfl hK hP hD hS hA (fun _ => rfl) (by decide +kernel) (by decide +kernel) (by decide +kernel) (Nat.le_of_ble_eq_true rfl) (Nat.le_of_ble_eq_true rfl) px_d62_130 (fun q_20 cA_12 H hK hP hD hS => ?_)
  replace hP := hP.swap
  replace hD := hD.swap
  replace hP : va_P (dC, dI) vwCl (([(h0, .inr (8, fs12)), (q_16, .inl (cA_8, 156, .inr (.inr (.inr (.inr (fun _ => none)))))), (q_20, .inl (cA_12, 12, .inl (fun _ => 0)))] : va_W) ++ Z_11) H := hP
  replace hD : va_D A (([(h0, .inr (8, fs12)), (q_16, .inl (cA_8, 156, .inr (.inr (.inr (.inr (fun _ => none)))))), (q_20, .inl (cA_12, 12, .inl (fun _ => 0)))] : va_W) ++ Z_11) := hD
  replace hK : va_K (dC, dI) vwCl [(cA, .int), (cA, .int), (cA, .int), (cA, .int), (cA, .int), (cA, .int), (cA, .int), (cA, .int), (cA_8, .object "MatroidDeskModel$Num"), (cA_9, .int), (cA_10, .int), (cA_11, .int), (cA_12, .int)] s := hK
  refine W.widen (k := 21) (n := 1653) (Nat.le_of_ble_eq_true rfl) (Nat.le_of_ble_eq_true rfl) ?_
  refine va_putF (D := (dC, dI)) (ci := 8) (v := .ref q_20) (ty := (.array .int)) (C := "MatroidDeskModel") (T := px_T8) (N := 53) hx hb htw px_in8 px_ty8 px_tyok8 px_nm8 hown hK hP hD hS 0 rfl rfl 15 (by decide) (htw _ px_w478) (fun _ h9 => h9) rfl hin rfl (by decide +kernel) rfl rfl (by rw [hlen]; decide) px_d62_132 (fun H locs hP hD hS => ?_)
  replace hP : va_P (dC, dI) vwCl (([(h0, .inr (8, (fs12.set 15 (.ref q_20)))), (q_16, .inl (cA_8, 156, .inr (.inr (.inr (.inr (fun _ => none)))))), (q_20, .inl (cA_12, 12, .inl (fun _ => 0)))] : va_W) ++ Z_11) H := hP
  replace hD : va_D A (([(h0, .inr (8, (fs12.set 15 (.ref q_20)))), (q_16, .inl (cA_8, 156, .inr (.inr (.inr (.inr (fun _ => none)))))), (q_20, .inl (cA_12, 12, .inl (fun _ => 0)))] : va_W) ++ Z_11) := hD
  obtain ⟨fs13, efs_13⟩ : ∃ z : List Value, z = (fs12.set 15 (.ref q_20)) := ⟨_, rfl⟩
  rw [← efs_13] at hP hD
  replace hk_8 : fs13[8]? = some (.ref q_16) := by rw [efs_13]; exact (px_sn (by decide)).trans hk_8
  replace hlen : fs13.length = 53 := by rw [efs_13]; exact px_sl hlen
  replace efs_13 : fs13 = [.ref q, .ref q_2, .ref q_4, .ref q_6, .ref q_8, .ref q_10, .ref q_12, .ref q_14, .ref q_16, .ref q_17, .int 0, .int 0, .int 0, .ref q_18, .ref q_19, .ref q_20, .null, .null, .null, .null, .null, .null, .null, .null, .null, .null, .null, .null, .null, .null, .null, .null, .int 0, .int 0, .null, .null, .null, .int 0, .int 0, .int 0, .int 0, .int 0, .int 0, .int 0, .null, .null, .null, .int 0, .null, .int 0, .null, .int 0, .int 0] := by rw [efs_13, efs_12]; rfl
  clear efs_12
  obtain ⟨Z_12, eZ_12⟩ : ∃ z : va_W, z = ([(q_20, .inl (cA_12, 12, .inl (fun _ => 0)))] : va_W) ++ Z_11 := ⟨_, rfl⟩
  replace hP : va_P (dC, dI) vwCl (([(h0, .inr (8, fs13)), (q_16, .inl (cA_8, 156, .inr (.inr (.inr (.inr (fun _ => none))))))] : va_W) ++ Z_12) H := by rw [eZ_12]; exact hP
  replace hD : va_D A (([(h0, .inr (8, fs13)), (q_16, .inl (cA_8, 156, .inr (.inr (.inr (.inr (fun _ => none))))))] : va_W) ++ Z_12) := by rw [eZ_12]; exact hD
  replace eZ_12 : Z_12 = [(q_20, .inl (cA_12, 12, .inl (fun _ => 0))), (q_19, .inl (cA_11, 12, .inl (fun _ => 0))), (q_18, .inl (cA_10, 13, .inl (fun _ => 0))), (q_17, .inl (cA_9, 156, .inl (fun _ => 0))), (q_14, .inr (9, [.ref q_15, .int 0, .int 0])), (q_15, .inl (cA, 160, .inl (fun _ => 0))), (q_12, .inr (9, [.ref q_13, .int 0, .int 0])), (q_13, .inl (cA, 160, .inl (fun _ => 0))), (q_10, .inr (9, [.ref q_11, .int 0, .int 0])), (q_11, .inl (cA, 160, .inl (fun _ => 0))), (q_8, .inr (9, [.ref q_9, .int 0, .int 0])), (q_9, .inl (cA, 160, .inl (fun _ => 0))), (q_6, .inr (9, [.ref q_7, .int 0, .int 0])), (q_7, .inl (cA, 160, .inl (fun _ => 0))), (q_4, .inr (9, [.ref q_5, .int 0, .int 0])), (q_5, .inl (cA, 160, .inl (fun _ => 0))), (q_2, .inr (9, [.ref q_3, .int 0, .int 0])), (q_3, .inl (cA, 160, .inl (fun _ => 0))), (q, .inr (9, [.ref q_1, .int 0, .int 0])), (q_1, .inl (cA, 160, .inl (fun _ => 0)))] := by rw [eZ_12, eZ_11]; rfl
  clear eZ_11
  refine lv_aload_n hx hb px_d62_135 rfl (lv_at hl 0 rfl) ?_
  refine lv_bipush (v := 36) hx hb px_d62_136 (by decide) ?_
  refine va_newq (n := 36) (N' := 36) hx hb hown (htw _ px_w500) (hN.2.2 "MatroidDeskModel$Num" (by decide)) hK hP hD hS hA (by decide +kernel) (by decide +kernel) (by decide +kernel) (Nat.le_of_ble_eq_true rfl) (Nat.le_of_ble_eq_true rfl) px_d62_138 (fun q_21 cA_13 H hK hP hD hS => ?_)
  replace hP := hP.swap
  replace hD := hD.swap
  replace hP : va_P (dC, dI) vwCl (([(h0, .inr (8, fs13)), (q_16, .inl (cA_8, 156, .inr (.inr (.inr (.inr (fun _ => none)))))), (q_21, .inl (cA_13, 36, .inr (.inr (.inr (.inr (fun _ => none))))))] : va_W) ++ Z_12) H := hP
  replace hD : va_D A (([(h0, .inr (8, fs13)), (q_16, .inl (cA_8, 156, .inr (.inr (.inr (.inr (fun _ => none)))))), (q_21, .inl (cA_13, 36, .inr (.inr (.inr (.inr (fun _ => none))))))] : va_W) ++ Z_12) := hD
  replace hK : va_K (dC, dI) vwCl [(cA, .int), (cA, .int), (cA, .int), (cA, .int), (cA, .int), (cA, .int), (cA, .int), (cA, .int), (cA_8, .object "MatroidDeskModel$Num"), (cA_9, .int), (cA_10, .int), (cA_11, .int), (cA_12, .int), (cA_13, .object "MatroidDeskModel$Num")] s := hK
  refine W.widen (k := 22) (n := 1689) (Nat.le_of_ble_eq_true rfl) (Nat.le_of_ble_eq_true rfl) ?_
  refine va_putF (D := (dC, dI)) (ci := 8) (v := .ref q_21) (ty := (.array (.object "MatroidDeskModel$Num"))) (C := "MatroidDeskModel") (T := px_T8) (N := 53) hx hb htw px_in8 px_ty8 px_tyok8 px_nm8 hown hK hP hD hS 0 rfl rfl 16 (by decide) (htw _ px_w495) (fun _ h9 => h9) rfl hin rfl (by decide +kernel) rfl rfl (by rw [hlen]; decide) px_d62_141 (fun H locs hP hD hS => ?_)
  replace hP : va_P (dC, dI) vwCl (([(h0, .inr (8, (fs13.set 16 (.ref q_21)))), (q_16, .inl (cA_8, 156, .inr (.inr (.inr (.inr (fun _ => none)))))), (q_21, .inl (cA_13, 36, .inr (.inr (.inr (.inr (fun _ => none))))))] : va_W) ++ Z_12) H := hP
  replace hD : va_D A (([(h0, .inr (8, (fs13.set 16 (.ref q_21)))), (q_16, .inl (cA_8, 156, .inr (.inr (.inr (.inr (fun _ => none)))))), (q_21, .inl (cA_13, 36, .inr (.inr (.inr (.inr (fun _ => none))))))] : va_W) ++ Z_12) := hD
  obtain ⟨fs14, efs_14⟩ : ∃ z : List Value, z = (fs13.set 16 (.ref q_21)) := ⟨_, rfl⟩
  rw [← efs_14] at hP hD
  replace hk_8 : fs14[8]? = some (.ref q_16) := by rw [efs_14]; exact (px_sn (by decide)).trans hk_8
  have hk_16 : fs14[16]? = some (.ref q_21) := by rw [efs_14]; exact px_ss hlen (by decide)
  replace hlen : fs14.length = 53 := by rw [efs_14]; exact px_sl hlen
  replace efs_14 : fs14 = [.ref q, .ref q_2, .ref q_4, .ref q_6, .ref q_8, .ref q_10, .ref q_12, .ref q_14, .ref q_16, .ref q_17, .int 0, .int 0, .int 0, .ref q_18, .ref q_19, .ref q_20, .ref q_21, .null, .null, .null, .null, .null, .null, .null, .null, .null, .null, .null, .null, .null, .null, .null, .int 0, .int 0, .null, .null, .null, .int 0, .int 0, .int 0, .int 0, .int 0, .int 0, .int 0, .null, .null, .null, .int 0, .null, .int 0, .null, .int 0, .int 0] := by rw [efs_14, efs_13]; rfl
  clear efs_13
  refine lv_aload_n hx hb px_d62_144 rfl (lv_at hl 0 rfl) ?_
  refine lv_bipush (v := 36) hx hb px_d62_145 (by decide) ?_
  refine va_newa (atype := .int) (ty := .int) (n := 36) (N' := 36) (a0 := (36, .inl (fun _ => 0))) hx hb (htw _ px_w2) rfl hK hP hD hS hA (fun _ => rfl) (by decide +kernel) (by decide +kernel) (by decide +kernel) (Nat.le_of_ble_eq_true rfl) (Nat.le_of_ble_eq_true rfl) px_d62_147 (fun q_22 cA_14 H hK hP hD hS => ?_)
  replace hP := hP.swap
  replace hD := hD.swap
  replace hP : va_P (dC, dI) vwCl (([(h0, .inr (8, fs14)), (q_16, .inl (cA_8, 156, .inr (.inr (.inr (.inr (fun _ => none)))))), (q_21, .inl (cA_13, 36, .inr (.inr (.inr (.inr (fun _ => none)))))), (q_22, .inl (cA_14, 36, .inl (fun _ => 0)))] : va_W) ++ Z_12) H := hP
  replace hD : va_D A (([(h0, .inr (8, fs14)), (q_16, .inl (cA_8, 156, .inr (.inr (.inr (.inr (fun _ => none)))))), (q_21, .inl (cA_13, 36, .inr (.inr (.inr (.inr (fun _ => none)))))), (q_22, .inl (cA_14, 36, .inl (fun _ => 0)))] : va_W) ++ Z_12) := hD
  replace hK : va_K (dC, dI) vwCl [(cA, .int), (cA, .int), (cA, .int), (cA, .int), (cA, .int), (cA, .int), (cA, .int), (cA, .int), (cA_8, .object "MatroidDeskModel$Num"), (cA_9, .int), (cA_10, .int), (cA_11, .int), (cA_12, .int), (cA_13, .object "MatroidDeskModel$Num"), (cA_14, .int)] s := hK
  refine W.widen (k := 23) (n := 1725) (Nat.le_of_ble_eq_true rfl) (Nat.le_of_ble_eq_true rfl) ?_
  refine va_putF (D := (dC, dI)) (ci := 8) (v := .ref q_22) (ty := (.array .int)) (C := "MatroidDeskModel") (T := px_T8) (N := 53) hx hb htw px_in8 px_ty8 px_tyok8 px_nm8 hown hK hP hD hS 0 rfl rfl 17 (by decide) (htw _ px_w491) (fun _ h9 => h9) rfl hin rfl (by decide +kernel) rfl rfl (by rw [hlen]; decide) px_d62_149 (fun H locs hP hD hS => ?_)
  replace hP : va_P (dC, dI) vwCl (([(h0, .inr (8, (fs14.set 17 (.ref q_22)))), (q_16, .inl (cA_8, 156, .inr (.inr (.inr (.inr (fun _ => none)))))), (q_21, .inl (cA_13, 36, .inr (.inr (.inr (.inr (fun _ => none)))))), (q_22, .inl (cA_14, 36, .inl (fun _ => 0)))] : va_W) ++ Z_12) H := hP
  replace hD : va_D A (([(h0, .inr (8, (fs14.set 17 (.ref q_22)))), (q_16, .inl (cA_8, 156, .inr (.inr (.inr (.inr (fun _ => none)))))), (q_21, .inl (cA_13, 36, .inr (.inr (.inr (.inr (fun _ => none)))))), (q_22, .inl (cA_14, 36, .inl (fun _ => 0)))] : va_W) ++ Z_12) := hD
  obtain ⟨fs15, efs_15⟩ : ∃ z : List Value, z = (fs14.set 17 (.ref q_22)) := ⟨_, rfl⟩
  rw [← efs_15] at hP hD
  replace hk_8 : fs15[8]? = some (.ref q_16) := by rw [efs_15]; exact (px_sn (by decide)).trans hk_8
  replace hk_16 : fs15[16]? = some (.ref q_21) := by rw [efs_15]; exact (px_sn (by decide)).trans hk_16
  replace hlen : fs15.length = 53 := by rw [efs_15]; exact px_sl hlen
  replace efs_15 : fs15 = [.ref q, .ref q_2, .ref q_4, .ref q_6, .ref q_8, .ref q_10, .ref q_12, .ref q_14, .ref q_16, .ref q_17, .int 0, .int 0, .int 0, .ref q_18, .ref q_19, .ref q_20, .ref q_21, .ref q_22, .null, .null, .null, .null, .null, .null, .null, .null, .null, .null, .null, .null, .null, .null, .int 0, .int 0, .null, .null, .null, .int 0, .int 0, .int 0, .int 0, .int 0, .int 0, .int 0, .null, .null, .null, .int 0, .null, .int 0, .null, .int 0, .int 0] := by rw [efs_15, efs_14]; rfl
  clear efs_14
  obtain ⟨Z_13, eZ_13⟩ : ∃ z : va_W, z = ([(q_22, .inl (cA_14, 36, .inl (fun _ => 0)))] : va_W) ++ Z_12 := ⟨_, rfl⟩
  replace hP : va_P (dC, dI) vwCl (([(h0, .inr (8, fs15)), (q_16, .inl (cA_8, 156, .inr (.inr (.inr (.inr (fun _ => none)))))), (q_21, .inl (cA_13, 36, .inr (.inr (.inr (.inr (fun _ => none))))))] : va_W) ++ Z_13) H := by rw [eZ_13]; exact hP
  replace hD : va_D A (([(h0, .inr (8, fs15)), (q_16, .inl (cA_8, 156, .inr (.inr (.inr (.inr (fun _ => none)))))), (q_21, .inl (cA_13, 36, .inr (.inr (.inr (.inr (fun _ => none))))))] : va_W) ++ Z_13) := by rw [eZ_13]; exact hD
  replace eZ_13 : Z_13 = [(q_22, .inl (cA_14, 36, .inl (fun _ => 0))), (q_20, .inl (cA_12, 12, .inl (fun _ => 0))), (q_19, .inl (cA_11, 12, .inl (fun _ => 0))), (q_18, .inl (cA_10, 13, .inl (fun _ => 0))), (q_17, .inl (cA_9, 156, .inl (fun _ => 0))), (q_14, .inr (9, [.ref q_15, .int 0, .int 0])), (q_15, .inl (cA, 160, .inl (fun _ => 0))), (q_12, .inr (9, [.ref q_13, .int 0, .int 0])), (q_13, .inl (cA, 160, .inl (fun _ => 0))), (q_10, .inr (9, [.ref q_11, .int 0, .int 0])), (q_11, .inl (cA, 160, .inl (fun _ => 0))), (q_8, .inr (9, [.ref q_9, .int 0, .int 0])), (q_9, .inl (cA, 160, .inl (fun _ => 0))), (q_6, .inr (9, [.ref q_7, .int 0, .int 0])), (q_7, .inl (cA, 160, .inl (fun _ => 0))), (q_4, .inr (9, [.ref q_5, .int 0, .int 0])), (q_5, .inl (cA, 160, .inl (fun _ => 0))), (q_2, .inr (9, [.ref q_3, .int 0, .int 0])), (q_3, .inl (cA, 160, .inl (fun _ => 0))), (q, .inr (9, [.ref q_1, .int 0, .int 0])), (q_1, .inl (cA, 160, .inl (fun _ => 0)))] := by rw [eZ_13, eZ_12]; rfl
  clear eZ_12
  refine lv_aload_n hx hb px_d62_152 rfl (lv_at hl 0 rfl) ?_
  refine lv_bipush (v := 26) hx hb px_d62_153 (by decide) ?_
  refine va_newa (atype := .boolean) (ty := .boolean) (n := 26) (N' := 26) (a0 := (26, .inl (fun _ => 0))) hx hb (htw _ px_w5) rfl hK hP hD hS hA (fun _ => rfl) (by decide +kernel) (by decide +kernel) (by decide +kernel) (Nat.le_of_ble_eq_true rfl) (Nat.le_of_ble_eq_true rfl) px_d62_155 (fun q_23 cA_15 H hK hP hD hS => ?_)
  replace hP := hP.swap
  replace hD := hD.swap
  replace hP : va_P (dC, dI) vwCl (([(h0, .inr (8, fs15)), (q_16, .inl (cA_8, 156, .inr (.inr (.inr (.inr (fun _ => none)))))), (q_21, .inl (cA_13, 36, .inr (.inr (.inr (.inr (fun _ => none)))))), (q_23, .inl (cA_15, 26, .inl (fun _ => 0)))] : va_W) ++ Z_13) H := hP
  replace hD : va_D A (([(h0, .inr (8, fs15)), (q_16, .inl (cA_8, 156, .inr (.inr (.inr (.inr (fun _ => none)))))), (q_21, .inl (cA_13, 36, .inr (.inr (.inr (.inr (fun _ => none)))))), (q_23, .inl (cA_15, 26, .inl (fun _ => 0)))] : va_W) ++ Z_13) := hD
  replace hK : va_K (dC, dI) vwCl [(cA, .int), (cA, .int), (cA, .int), (cA, .int), (cA, .int), (cA, .int), (cA, .int), (cA, .int), (cA_8, .object "MatroidDeskModel$Num"), (cA_9, .int), (cA_10, .int), (cA_11, .int), (cA_12, .int), (cA_13, .object "MatroidDeskModel$Num"), (cA_14, .int), (cA_15, .boolean)] s := hK
  refine W.widen (k := 24) (n := 1751) (Nat.le_of_ble_eq_true rfl) (Nat.le_of_ble_eq_true rfl) ?_
  refine va_putF (D := (dC, dI)) (ci := 8) (v := .ref q_23) (ty := (.array .boolean)) (C := "MatroidDeskModel") (T := px_T8) (N := 53) hx hb htw px_in8 px_ty8 px_tyok8 px_nm8 hown hK hP hD hS 0 rfl rfl 18 (by decide) (htw _ px_w501) (fun _ h9 => h9) rfl hin rfl (by decide +kernel) rfl rfl (by rw [hlen]; decide) px_d62_157 (fun H locs hP hD hS => ?_)
  replace hP : va_P (dC, dI) vwCl (([(h0, .inr (8, (fs15.set 18 (.ref q_23)))), (q_16, .inl (cA_8, 156, .inr (.inr (.inr (.inr (fun _ => none)))))), (q_21, .inl (cA_13, 36, .inr (.inr (.inr (.inr (fun _ => none)))))), (q_23, .inl (cA_15, 26, .inl (fun _ => 0)))] : va_W) ++ Z_13) H := hP
  replace hD : va_D A (([(h0, .inr (8, (fs15.set 18 (.ref q_23)))), (q_16, .inl (cA_8, 156, .inr (.inr (.inr (.inr (fun _ => none)))))), (q_21, .inl (cA_13, 36, .inr (.inr (.inr (.inr (fun _ => none)))))), (q_23, .inl (cA_15, 26, .inl (fun _ => 0)))] : va_W) ++ Z_13) := hD
  obtain ⟨fs16, efs_16⟩ : ∃ z : List Value, z = (fs15.set 18 (.ref q_23)) := ⟨_, rfl⟩
  rw [← efs_16] at hP hD
  replace hk_8 : fs16[8]? = some (.ref q_16) := by rw [efs_16]; exact (px_sn (by decide)).trans hk_8
  replace hk_16 : fs16[16]? = some (.ref q_21) := by rw [efs_16]; exact (px_sn (by decide)).trans hk_16
  replace hlen : fs16.length = 53 := by rw [efs_16]; exact px_sl hlen
  replace efs_16 : fs16 = [.ref q, .ref q_2, .ref q_4, .ref q_6, .ref q_8, .ref q_10, .ref q_12, .ref q_14, .ref q_16, .ref q_17, .int 0, .int 0, .int 0, .ref q_18, .ref q_19, .ref q_20, .ref q_21, .ref q_22, .ref q_23, .null, .null, .null, .null, .null, .null, .null, .null, .null, .null, .null, .null, .null, .int 0, .int 0, .null, .null, .null, .int 0, .int 0, .int 0, .int 0, .int 0, .int 0, .int 0, .null, .null, .null, .int 0, .null, .int 0, .null, .int 0, .int 0] := by rw [efs_16, efs_15]; rfl
  clear efs_15
  obtain ⟨Z_14, eZ_14⟩ : ∃ z : va_W, z = ([(q_23, .inl (cA_15, 26, .inl (fun _ => 0)))] : va_W) ++ Z_13 := ⟨_, rfl⟩
  replace hP : va_P (dC, dI) vwCl (([(h0, .inr (8, fs16)), (q_16, .inl (cA_8, 156, .inr (.inr (.inr (.inr (fun _ => none)))))), (q_21, .inl (cA_13, 36, .inr (.inr (.inr (.inr (fun _ => none))))))] : va_W) ++ Z_14) H := by rw [eZ_14]; exact hP
  replace hD : va_D A (([(h0, .inr (8, fs16)), (q_16, .inl (cA_8, 156, .inr (.inr (.inr (.inr (fun _ => none)))))), (q_21, .inl (cA_13, 36, .inr (.inr (.inr (.inr (fun _ => none))))))] : va_W) ++ Z_14) := by rw [eZ_14]; exact hD
  replace eZ_14 : Z_14 = [(q_23, .inl (cA_15, 26, .inl (fun _ => 0))), (q_22, .inl (cA_14, 36, .inl (fun _ => 0))), (q_20, .inl (cA_12, 12, .inl (fun _ => 0))), (q_19, .inl (cA_11, 12, .inl (fun _ => 0))), (q_18, .inl (cA_10, 13, .inl (fun _ => 0))), (q_17, .inl (cA_9, 156, .inl (fun _ => 0))), (q_14, .inr (9, [.ref q_15, .int 0, .int 0])), (q_15, .inl (cA, 160, .inl (fun _ => 0))), (q_12, .inr (9, [.ref q_13, .int 0, .int 0])), (q_13, .inl (cA, 160, .inl (fun _ => 0))), (q_10, .inr (9, [.ref q_11, .int 0, .int 0])), (q_11, .inl (cA, 160, .inl (fun _ => 0))), (q_8, .inr (9, [.ref q_9, .int 0, .int 0])), (q_9, .inl (cA, 160, .inl (fun _ => 0))), (q_6, .inr (9, [.ref q_7, .int 0, .int 0])), (q_7, .inl (cA, 160, .inl (fun _ => 0))), (q_4, .inr (9, [.ref q_5, .int 0, .int 0])), (q_5, .inl (cA, 160, .inl (fun _ => 0))), (q_2, .inr (9, [.ref q_3, .int 0, .int 0])), (q_3, .inl (cA, 160, .inl (fun _ => 0))), (q, .inr (9, [.ref q_1, .int 0, .int 0])), (q_1, .inl (cA, 160, .inl (fun _ => 0)))] := by rw [eZ_14, eZ_13]; rfl
  clear eZ_13
  refine lv_aload_n hx hb px_d62_160 rfl (lv_at hl 0 rfl) ?_
  refine lv_bipush (v := 26) hx hb px_d62_161 (by decide) ?_
  refine va_newa (atype := .int) (ty := .int) (n := 26) (N' := 26) (a0 := (26, .inl (fun _ => 0))) hx hb (htw _ px_w2) rfl hK hP hD hS hA (fun _ => rfl) (by decide +kernel) (by decide +kernel) (by decide +kernel) (Nat.le_of_ble_eq_true rfl) (Nat.le_of_ble_eq_true rfl) px_d62_163 (fun q_24 cA_16 H hK hP hD hS => ?_)
  replace hP := hP.swap
  replace hD := hD.swap
  replace hP : va_P (dC, dI) vwCl (([(h0, .inr (8, fs16)), (q_16, .inl (cA_8, 156, .inr (.inr (.inr (.inr (fun _ => none)))))), (q_21, .inl (cA_13, 36, .inr (.inr (.inr (.inr (fun _ => none)))))), (q_24, .inl (cA_16, 26, .inl (fun _ => 0)))] : va_W) ++ Z_14) H := hP
  replace hD : va_D A (([(h0, .inr (8, fs16)), (q_16, .inl (cA_8, 156, .inr (.inr (.inr (.inr (fun _ => none)))))), (q_21, .inl (cA_13, 36, .inr (.inr (.inr (.inr (fun _ => none)))))), (q_24, .inl (cA_16, 26, .inl (fun _ => 0)))] : va_W) ++ Z_14) := hD
  replace hK : va_K (dC, dI) vwCl [(cA, .int), (cA, .int), (cA, .int), (cA, .int), (cA, .int), (cA, .int), (cA, .int), (cA, .int), (cA_8, .object "MatroidDeskModel$Num"), (cA_9, .int), (cA_10, .int), (cA_11, .int), (cA_12, .int), (cA_13, .object "MatroidDeskModel$Num"), (cA_14, .int), (cA_15, .boolean), (cA_16, .int)] s := hK
  refine W.widen (k := 25) (n := 1777) (Nat.le_of_ble_eq_true rfl) (Nat.le_of_ble_eq_true rfl) ?_
  refine va_putF (D := (dC, dI)) (ci := 8) (v := .ref q_24) (ty := (.array .int)) (C := "MatroidDeskModel") (T := px_T8) (N := 53) hx hb htw px_in8 px_ty8 px_tyok8 px_nm8 hown hK hP hD hS 0 rfl rfl 19 (by decide) (htw _ px_w502) (fun _ h9 => h9) rfl hin rfl (by decide +kernel) rfl rfl (by rw [hlen]; decide) px_d62_165 (fun H locs hP hD hS => ?_)
  replace hP : va_P (dC, dI) vwCl (([(h0, .inr (8, (fs16.set 19 (.ref q_24)))), (q_16, .inl (cA_8, 156, .inr (.inr (.inr (.inr (fun _ => none)))))), (q_21, .inl (cA_13, 36, .inr (.inr (.inr (.inr (fun _ => none)))))), (q_24, .inl (cA_16, 26, .inl (fun _ => 0)))] : va_W) ++ Z_14) H := hP
  replace hD : va_D A (([(h0, .inr (8, (fs16.set 19 (.ref q_24)))), (q_16, .inl (cA_8, 156, .inr (.inr (.inr (.inr (fun _ => none)))))), (q_21, .inl (cA_13, 36, .inr (.inr (.inr (.inr (fun _ => none)))))), (q_24, .inl (cA_16, 26, .inl (fun _ => 0)))] : va_W) ++ Z_14) := hD
  obtain ⟨fs17, efs_17⟩ : ∃ z : List Value, z = (fs16.set 19 (.ref q_24)) := ⟨_, rfl⟩
  rw [← efs_17] at hP hD
  replace hk_8 : fs17[8]? = some (.ref q_16) := by rw [efs_17]; exact (px_sn (by decide)).trans hk_8
  replace hk_16 : fs17[16]? = some (.ref q_21) := by rw [efs_17]; exact (px_sn (by decide)).trans hk_16
  replace hlen : fs17.length = 53 := by rw [efs_17]; exact px_sl hlen
  replace efs_17 : fs17 = [.ref q, .ref q_2, .ref q_4, .ref q_6, .ref q_8, .ref q_10, .ref q_12, .ref q_14, .ref q_16, .ref q_17, .int 0, .int 0, .int 0, .ref q_18, .ref q_19, .ref q_20, .ref q_21, .ref q_22, .ref q_23, .ref q_24, .null, .null, .null, .null, .null, .null, .null, .null, .null, .null, .null, .null, .int 0, .int 0, .null, .null, .null, .int 0, .int 0, .int 0, .int 0, .int 0, .int 0, .int 0, .null, .null, .null, .int 0, .null, .int 0, .null, .int 0, .int 0] := by rw [efs_17, efs_16]; rfl
  clear efs_16
  obtain ⟨Z_15, eZ_15⟩ : ∃ z : va_W, z = ([(q_24, .inl (cA_16, 26, .inl (fun _ => 0)))] : va_W) ++ Z_14 := ⟨_, rfl⟩
  replace hP : va_P (dC, dI) vwCl (([(h0, .inr (8, fs17)), (q_16, .inl (cA_8, 156, .inr (.inr (.inr (.inr (fun _ => none)))))), (q_21, .inl (cA_13, 36, .inr (.inr (.inr (.inr (fun _ => none))))))] : va_W) ++ Z_15) H := by rw [eZ_15]; exact hP
  replace hD : va_D A (([(h0, .inr (8, fs17)), (q_16, .inl (cA_8, 156, .inr (.inr (.inr (.inr (fun _ => none)))))), (q_21, .inl (cA_13, 36, .inr (.inr (.inr (.inr (fun _ => none))))))] : va_W) ++ Z_15) := by rw [eZ_15]; exact hD
  replace eZ_15 : Z_15 = [(q_24, .inl (cA_16, 26, .inl (fun _ => 0))), (q_23, .inl (cA_15, 26, .inl (fun _ => 0))), (q_22, .inl (cA_14, 36, .inl (fun _ => 0))), (q_20, .inl (cA_12, 12, .inl (fun _ => 0))), (q_19, .inl (cA_11, 12, .inl (fun _ => 0))), (q_18, .inl (cA_10, 13, .inl (fun _ => 0))), (q_17, .inl (cA_9, 156, .inl (fun _ => 0))), (q_14, .inr (9, [.ref q_15, .int 0, .int 0])), (q_15, .inl (cA, 160, .inl (fun _ => 0))), (q_12, .inr (9, [.ref q_13, .int 0, .int 0])), (q_13, .inl (cA, 160, .inl (fun _ => 0))), (q_10, .inr (9, [.ref q_11, .int 0, .int 0])), (q_11, .inl (cA, 160, .inl (fun _ => 0))), (q_8, .inr (9, [.ref q_9, .int 0, .int 0])), (q_9, .inl (cA, 160, .inl (fun _ => 0))), (q_6, .inr (9, [.ref q_7, .int 0, .int 0])), (q_7, .inl (cA, 160, .inl (fun _ => 0))), (q_4, .inr (9, [.ref q_5, .int 0, .int 0])), (q_5, .inl (cA, 160, .inl (fun _ => 0))), (q_2, .inr (9, [.ref q_3, .int 0, .int 0])), (q_3, .inl (cA, 160, .inl (fun _ => 0))), (q, .inr (9, [.ref q_1, .int 0, .int 0])), (q_1, .inl (cA, 160, .inl (fun _ => 0)))] := by rw [eZ_15, eZ_14]; rfl
  clear eZ_14
  refine lv_aload_n hx hb px_d62_168 rfl (lv_at hl 0 rfl) ?_
  refine lv_bipush (v := 26) hx hb px_d62_169 (by decide) ?_
  refine va_newa (atype := .int) (ty := .int) (n := 26) (N' := 26) (a0 := (26, .inl (fun _ => 0))) hx hb (htw _ px_w2) rfl hK hP hD hS hA (fun _ => rfl) (by decide +kernel) (by decide +kernel) (by decide +kernel) (Nat.le_of_ble_eq_true rfl) (Nat.le_of_ble_eq_true rfl) px_d62_171 (fun q_25 cA_17 H hK hP hD hS => ?_)
  replace hP := hP.swap
  replace hD := hD.swap
  replace hP : va_P (dC, dI) vwCl (([(h0, .inr (8, fs17)), (q_16, .inl (cA_8, 156, .inr (.inr (.inr (.inr (fun _ => none)))))), (q_21, .inl (cA_13, 36, .inr (.inr (.inr (.inr (fun _ => none)))))), (q_25, .inl (cA_17, 26, .inl (fun _ => 0)))] : va_W) ++ Z_15) H := hP
  replace hD : va_D A (([(h0, .inr (8, fs17)), (q_16, .inl (cA_8, 156, .inr (.inr (.inr (.inr (fun _ => none)))))), (q_21, .inl (cA_13, 36, .inr (.inr (.inr (.inr (fun _ => none)))))), (q_25, .inl (cA_17, 26, .inl (fun _ => 0)))] : va_W) ++ Z_15) := hD
  replace hK : va_K (dC, dI) vwCl [(cA, .int), (cA, .int), (cA, .int), (cA, .int), (cA, .int), (cA, .int), (cA, .int), (cA, .int), (cA_8, .object "MatroidDeskModel$Num"), (cA_9, .int), (cA_10, .int), (cA_11, .int), (cA_12, .int), (cA_13, .object "MatroidDeskModel$Num"), (cA_14, .int), (cA_15, .boolean), (cA_16, .int), (cA_17, .int)] s := hK
  refine W.widen (k := 26) (n := 1803) (Nat.le_of_ble_eq_true rfl) (Nat.le_of_ble_eq_true rfl) ?_
  refine va_putF (D := (dC, dI)) (ci := 8) (v := .ref q_25) (ty := (.array .int)) (C := "MatroidDeskModel") (T := px_T8) (N := 53) hx hb htw px_in8 px_ty8 px_tyok8 px_nm8 hown hK hP hD hS 0 rfl rfl 20 (by decide) (htw _ px_w503) (fun _ h9 => h9) rfl hin rfl (by decide +kernel) rfl rfl (by rw [hlen]; decide) px_d62_173 (fun H locs hP hD hS => ?_)
  replace hP : va_P (dC, dI) vwCl (([(h0, .inr (8, (fs17.set 20 (.ref q_25)))), (q_16, .inl (cA_8, 156, .inr (.inr (.inr (.inr (fun _ => none)))))), (q_21, .inl (cA_13, 36, .inr (.inr (.inr (.inr (fun _ => none)))))), (q_25, .inl (cA_17, 26, .inl (fun _ => 0)))] : va_W) ++ Z_15) H := hP
  replace hD : va_D A (([(h0, .inr (8, (fs17.set 20 (.ref q_25)))), (q_16, .inl (cA_8, 156, .inr (.inr (.inr (.inr (fun _ => none)))))), (q_21, .inl (cA_13, 36, .inr (.inr (.inr (.inr (fun _ => none)))))), (q_25, .inl (cA_17, 26, .inl (fun _ => 0)))] : va_W) ++ Z_15) := hD
  obtain ⟨fs18, efs_18⟩ : ∃ z : List Value, z = (fs17.set 20 (.ref q_25)) := ⟨_, rfl⟩
  rw [← efs_18] at hP hD
  replace hk_8 : fs18[8]? = some (.ref q_16) := by rw [efs_18]; exact (px_sn (by decide)).trans hk_8
  replace hk_16 : fs18[16]? = some (.ref q_21) := by rw [efs_18]; exact (px_sn (by decide)).trans hk_16
  replace hlen : fs18.length = 53 := by rw [efs_18]; exact px_sl hlen
  replace efs_18 : fs18 = [.ref q, .ref q_2, .ref q_4, .ref q_6, .ref q_8, .ref q_10, .ref q_12, .ref q_14, .ref q_16, .ref q_17, .int 0, .int 0, .int 0, .ref q_18, .ref q_19, .ref q_20, .ref q_21, .ref q_22, .ref q_23, .ref q_24, .ref q_25, .null, .null, .null, .null, .null, .null, .null, .null, .null, .null, .null, .int 0, .int 0, .null, .null, .null, .int 0, .int 0, .int 0, .int 0, .int 0, .int 0, .int 0, .null, .null, .null, .int 0, .null, .int 0, .null, .int 0, .int 0] := by rw [efs_18, efs_17]; rfl
  clear efs_17
  obtain ⟨Z_16, eZ_16⟩ : ∃ z : va_W, z = ([(q_25, .inl (cA_17, 26, .inl (fun _ => 0)))] : va_W) ++ Z_15 := ⟨_, rfl⟩
  replace hP : va_P (dC, dI) vwCl (([(h0, .inr (8, fs18)), (q_16, .inl (cA_8, 156, .inr (.inr (.inr (.inr (fun _ => none)))))), (q_21, .inl (cA_13, 36, .inr (.inr (.inr (.inr (fun _ => none))))))] : va_W) ++ Z_16) H := by rw [eZ_16]; exact hP
  replace hD : va_D A (([(h0, .inr (8, fs18)), (q_16, .inl (cA_8, 156, .inr (.inr (.inr (.inr (fun _ => none)))))), (q_21, .inl (cA_13, 36, .inr (.inr (.inr (.inr (fun _ => none))))))] : va_W) ++ Z_16) := by rw [eZ_16]; exact hD
  replace eZ_16 : Z_16 = [(q_25, .inl (cA_17, 26, .inl (fun _ => 0))), (q_24, .inl (cA_16, 26, .inl (fun _ => 0))), (q_23, .inl (cA_15, 26, .inl (fun _ => 0))), (q_22, .inl (cA_14, 36, .inl (fun _ => 0))), (q_20, .inl (cA_12, 12, .inl (fun _ => 0))), (q_19, .inl (cA_11, 12, .inl (fun _ => 0))), (q_18, .inl (cA_10, 13, .inl (fun _ => 0))), (q_17, .inl (cA_9, 156, .inl (fun _ => 0))), (q_14, .inr (9, [.ref q_15, .int 0, .int 0])), (q_15, .inl (cA, 160, .inl (fun _ => 0))), (q_12, .inr (9, [.ref q_13, .int 0, .int 0])), (q_13, .inl (cA, 160, .inl (fun _ => 0))), (q_10, .inr (9, [.ref q_11, .int 0, .int 0])), (q_11, .inl (cA, 160, .inl (fun _ => 0))), (q_8, .inr (9, [.ref q_9, .int 0, .int 0])), (q_9, .inl (cA, 160, .inl (fun _ => 0))), (q_6, .inr (9, [.ref q_7, .int 0, .int 0])), (q_7, .inl (cA, 160, .inl (fun _ => 0))), (q_4, .inr (9, [.ref q_5, .int 0, .int 0])), (q_5, .inl (cA, 160, .inl (fun _ => 0))), (q_2, .inr (9, [.ref q_3, .int 0, .int 0])), (q_3, .inl (cA, 160, .inl (fun _ => 0))), (q, .inr (9, [.ref q_1, .int 0, .int 0])), (q_1, .inl (cA, 160, .inl (fun _ => 0)))] := by rw [eZ_16, eZ_15]; rfl
  clear eZ_15
  refine lv_aload_n hx hb px_d62_176 rfl (lv_at hl 0 rfl) ?_
  refine lv_bipush (v := 26) hx hb px_d62_177 (by decide) ?_
  refine va_newa (atype := .int) (ty := .int) (n := 26) (N' := 26) (a0 := (26, .inl (fun _ => 0))) hx hb (htw _ px_w2) rfl hK hP hD hS hA (fun _ => rfl) (by decide +kernel) (by decide +kernel) (by decide +kernel) (Nat.le_of_ble_eq_true rfl) (Nat.le_of_ble_eq_true rfl) px_d62_179 (fun q_26 cA_18 H hK hP hD hS => ?_)
  replace hP := hP.swap
  replace hD := hD.swap
  replace hP : va_P (dC, dI) vwCl (([(h0, .inr (8, fs18)), (q_16, .inl (cA_8, 156, .inr (.inr (.inr (.inr (fun _ => none)))))), (q_21, .inl (cA_13, 36, .inr (.inr (.inr (.inr (fun _ => none)))))), (q_26, .inl (cA_18, 26, .inl (fun _ => 0)))] : va_W) ++ Z_16) H := hP
  replace hD : va_D A (([(h0, .inr (8, fs18)), (q_16, .inl (cA_8, 156, .inr (.inr (.inr (.inr (fun _ => none)))))), (q_21, .inl (cA_13, 36, .inr (.inr (.inr (.inr (fun _ => none)))))), (q_26, .inl (cA_18, 26, .inl (fun _ => 0)))] : va_W) ++ Z_16) := hD
  replace hK : va_K (dC, dI) vwCl [(cA, .int), (cA, .int), (cA, .int), (cA, .int), (cA, .int), (cA, .int), (cA, .int), (cA, .int), (cA_8, .object "MatroidDeskModel$Num"), (cA_9, .int), (cA_10, .int), (cA_11, .int), (cA_12, .int), (cA_13, .object "MatroidDeskModel$Num"), (cA_14, .int), (cA_15, .boolean), (cA_16, .int), (cA_17, .int), (cA_18, .int)] s := hK
  refine W.widen (k := 27) (n := 1829) (Nat.le_of_ble_eq_true rfl) (Nat.le_of_ble_eq_true rfl) ?_
  refine va_putF (D := (dC, dI)) (ci := 8) (v := .ref q_26) (ty := (.array .int)) (C := "MatroidDeskModel") (T := px_T8) (N := 53) hx hb htw px_in8 px_ty8 px_tyok8 px_nm8 hown hK hP hD hS 0 rfl rfl 21 (by decide) (htw _ px_w504) (fun _ h9 => h9) rfl hin rfl (by decide +kernel) rfl rfl (by rw [hlen]; decide) px_d62_181 (fun H locs hP hD hS => ?_)
  replace hP : va_P (dC, dI) vwCl (([(h0, .inr (8, (fs18.set 21 (.ref q_26)))), (q_16, .inl (cA_8, 156, .inr (.inr (.inr (.inr (fun _ => none)))))), (q_21, .inl (cA_13, 36, .inr (.inr (.inr (.inr (fun _ => none)))))), (q_26, .inl (cA_18, 26, .inl (fun _ => 0)))] : va_W) ++ Z_16) H := hP
  replace hD : va_D A (([(h0, .inr (8, (fs18.set 21 (.ref q_26)))), (q_16, .inl (cA_8, 156, .inr (.inr (.inr (.inr (fun _ => none)))))), (q_21, .inl (cA_13, 36, .inr (.inr (.inr (.inr (fun _ => none)))))), (q_26, .inl (cA_18, 26, .inl (fun _ => 0)))] : va_W) ++ Z_16) := hD
  obtain ⟨fs19, efs_19⟩ : ∃ z : List Value, z = (fs18.set 21 (.ref q_26)) := ⟨_, rfl⟩
  rw [← efs_19] at hP hD
  replace hk_8 : fs19[8]? = some (.ref q_16) := by rw [efs_19]; exact (px_sn (by decide)).trans hk_8
  replace hk_16 : fs19[16]? = some (.ref q_21) := by rw [efs_19]; exact (px_sn (by decide)).trans hk_16
  replace hlen : fs19.length = 53 := by rw [efs_19]; exact px_sl hlen
  replace efs_19 : fs19 = [.ref q, .ref q_2, .ref q_4, .ref q_6, .ref q_8, .ref q_10, .ref q_12, .ref q_14, .ref q_16, .ref q_17, .int 0, .int 0, .int 0, .ref q_18, .ref q_19, .ref q_20, .ref q_21, .ref q_22, .ref q_23, .ref q_24, .ref q_25, .ref q_26, .null, .null, .null, .null, .null, .null, .null, .null, .null, .null, .int 0, .int 0, .null, .null, .null, .int 0, .int 0, .int 0, .int 0, .int 0, .int 0, .int 0, .null, .null, .null, .int 0, .null, .int 0, .null, .int 0, .int 0] := by rw [efs_19, efs_18]; rfl
  clear efs_18
  obtain ⟨Z_17, eZ_17⟩ : ∃ z : va_W, z = ([(q_26, .inl (cA_18, 26, .inl (fun _ => 0)))] : va_W) ++ Z_16 := ⟨_, rfl⟩
  replace hP : va_P (dC, dI) vwCl (([(h0, .inr (8, fs19)), (q_16, .inl (cA_8, 156, .inr (.inr (.inr (.inr (fun _ => none)))))), (q_21, .inl (cA_13, 36, .inr (.inr (.inr (.inr (fun _ => none))))))] : va_W) ++ Z_17) H := by rw [eZ_17]; exact hP
  replace hD : va_D A (([(h0, .inr (8, fs19)), (q_16, .inl (cA_8, 156, .inr (.inr (.inr (.inr (fun _ => none)))))), (q_21, .inl (cA_13, 36, .inr (.inr (.inr (.inr (fun _ => none))))))] : va_W) ++ Z_17) := by rw [eZ_17]; exact hD
  replace eZ_17 : Z_17 = [(q_26, .inl (cA_18, 26, .inl (fun _ => 0))), (q_25, .inl (cA_17, 26, .inl (fun _ => 0))), (q_24, .inl (cA_16, 26, .inl (fun _ => 0))), (q_23, .inl (cA_15, 26, .inl (fun _ => 0))), (q_22, .inl (cA_14, 36, .inl (fun _ => 0))), (q_20, .inl (cA_12, 12, .inl (fun _ => 0))), (q_19, .inl (cA_11, 12, .inl (fun _ => 0))), (q_18, .inl (cA_10, 13, .inl (fun _ => 0))), (q_17, .inl (cA_9, 156, .inl (fun _ => 0))), (q_14, .inr (9, [.ref q_15, .int 0, .int 0])), (q_15, .inl (cA, 160, .inl (fun _ => 0))), (q_12, .inr (9, [.ref q_13, .int 0, .int 0])), (q_13, .inl (cA, 160, .inl (fun _ => 0))), (q_10, .inr (9, [.ref q_11, .int 0, .int 0])), (q_11, .inl (cA, 160, .inl (fun _ => 0))), (q_8, .inr (9, [.ref q_9, .int 0, .int 0])), (q_9, .inl (cA, 160, .inl (fun _ => 0))), (q_6, .inr (9, [.ref q_7, .int 0, .int 0])), (q_7, .inl (cA, 160, .inl (fun _ => 0))), (q_4, .inr (9, [.ref q_5, .int 0, .int 0])), (q_5, .inl (cA, 160, .inl (fun _ => 0))), (q_2, .inr (9, [.ref q_3, .int 0, .int 0])), (q_3, .inl (cA, 160, .inl (fun _ => 0))), (q, .inr (9, [.ref q_1, .int 0, .int 0])), (q_1, .inl (cA, 160, .inl (fun _ => 0)))] := by rw [eZ_17, eZ_16]; rfl
  clear eZ_16
  refine lv_aload_n hx hb px_d62_184 rfl (lv_at hl 0 rfl) ?_
  refine lv_ldc hx hb (own := "MatroidDeskModel") (index := 166) (v := 89856) hown (htw _ px_w505) px_d62_185 ?_
  refine va_newa (atype := .int) (ty := .int) (n := 89856) (N' := 89856) (a0 := (89856, .inl (fun _ => 0))) hx hb (htw _ px_w2) rfl hK hP hD hS hA (fun _ => rfl) (by decide +kernel) (by decide +kernel) (by decide +kernel) (Nat.le_of_ble_eq_true rfl) (Nat.le_of_ble_eq_true rfl) px_d62_187 (fun q_27 cA_19 H hK hP hD hS => ?_)
  replace hP := hP.swap
  replace hD := hD.swap
  replace hP : va_P (dC, dI) vwCl (([(h0, .inr (8, fs19)), (q_16, .inl (cA_8, 156, .inr (.inr (.inr (.inr (fun _ => none)))))), (q_21, .inl (cA_13, 36, .inr (.inr (.inr (.inr (fun _ => none)))))), (q_27, .inl (cA_19, 89856, .inl (fun _ => 0)))] : va_W) ++ Z_17) H := hP
  replace hD : va_D A (([(h0, .inr (8, fs19)), (q_16, .inl (cA_8, 156, .inr (.inr (.inr (.inr (fun _ => none)))))), (q_21, .inl (cA_13, 36, .inr (.inr (.inr (.inr (fun _ => none)))))), (q_27, .inl (cA_19, 89856, .inl (fun _ => 0)))] : va_W) ++ Z_17) := hD
  replace hK : va_K (dC, dI) vwCl [(cA, .int), (cA, .int), (cA, .int), (cA, .int), (cA, .int), (cA, .int), (cA, .int), (cA, .int), (cA_8, .object "MatroidDeskModel$Num"), (cA_9, .int), (cA_10, .int), (cA_11, .int), (cA_12, .int), (cA_13, .object "MatroidDeskModel$Num"), (cA_14, .int), (cA_15, .boolean), (cA_16, .int), (cA_17, .int), (cA_18, .int), (cA_19, .int)] s := hK
  refine W.widen (k := 28) (n := 91685) (Nat.le_of_ble_eq_true rfl) (Nat.le_of_ble_eq_true rfl) ?_
  refine va_putF (D := (dC, dI)) (ci := 8) (v := .ref q_27) (ty := (.array .int)) (C := "MatroidDeskModel") (T := px_T8) (N := 53) hx hb htw px_in8 px_ty8 px_tyok8 px_nm8 hown hK hP hD hS 0 rfl rfl 22 (by decide) (htw _ px_w506) (fun _ h9 => h9) rfl hin rfl (by decide +kernel) rfl rfl (by rw [hlen]; decide) px_d62_189 (fun H locs hP hD hS => ?_)
  replace hP : va_P (dC, dI) vwCl (([(h0, .inr (8, (fs19.set 22 (.ref q_27)))), (q_16, .inl (cA_8, 156, .inr (.inr (.inr (.inr (fun _ => none)))))), (q_21, .inl (cA_13, 36, .inr (.inr (.inr (.inr (fun _ => none)))))), (q_27, .inl (cA_19, 89856, .inl (fun _ => 0)))] : va_W) ++ Z_17) H := hP
  replace hD : va_D A (([(h0, .inr (8, (fs19.set 22 (.ref q_27)))), (q_16, .inl (cA_8, 156, .inr (.inr (.inr (.inr (fun _ => none)))))), (q_21, .inl (cA_13, 36, .inr (.inr (.inr (.inr (fun _ => none)))))), (q_27, .inl (cA_19, 89856, .inl (fun _ => 0)))] : va_W) ++ Z_17) := hD
  obtain ⟨fs20, efs_20⟩ : ∃ z : List Value, z = (fs19.set 22 (.ref q_27)) := ⟨_, rfl⟩
  rw [← efs_20] at hP hD
  replace hk_8 : fs20[8]? = some (.ref q_16) := by rw [efs_20]; exact (px_sn (by decide)).trans hk_8
  replace hk_16 : fs20[16]? = some (.ref q_21) := by rw [efs_20]; exact (px_sn (by decide)).trans hk_16
  replace hlen : fs20.length = 53 := by rw [efs_20]; exact px_sl hlen
  replace efs_20 : fs20 = [.ref q, .ref q_2, .ref q_4, .ref q_6, .ref q_8, .ref q_10, .ref q_12, .ref q_14, .ref q_16, .ref q_17, .int 0, .int 0, .int 0, .ref q_18, .ref q_19, .ref q_20, .ref q_21, .ref q_22, .ref q_23, .ref q_24, .ref q_25, .ref q_26, .ref q_27, .null, .null, .null, .null, .null, .null, .null, .null, .null, .int 0, .int 0, .null, .null, .null, .int 0, .int 0, .int 0, .int 0, .int 0, .int 0, .int 0, .null, .null, .null, .int 0, .null, .int 0, .null, .int 0, .int 0] := by rw [efs_20, efs_19]; rfl
  clear efs_19
  obtain ⟨Z_18, eZ_18⟩ : ∃ z : va_W, z = ([(q_27, .inl (cA_19, 89856, .inl (fun _ => 0)))] : va_W) ++ Z_17 := ⟨_, rfl⟩
  replace hP : va_P (dC, dI) vwCl (([(h0, .inr (8, fs20)), (q_16, .inl (cA_8, 156, .inr (.inr (.inr (.inr (fun _ => none)))))), (q_21, .inl (cA_13, 36, .inr (.inr (.inr (.inr (fun _ => none))))))] : va_W) ++ Z_18) H := by rw [eZ_18]; exact hP
  replace hD : va_D A (([(h0, .inr (8, fs20)), (q_16, .inl (cA_8, 156, .inr (.inr (.inr (.inr (fun _ => none)))))), (q_21, .inl (cA_13, 36, .inr (.inr (.inr (.inr (fun _ => none))))))] : va_W) ++ Z_18) := by rw [eZ_18]; exact hD
  replace eZ_18 : Z_18 = [(q_27, .inl (cA_19, 89856, .inl (fun _ => 0))), (q_26, .inl (cA_18, 26, .inl (fun _ => 0))), (q_25, .inl (cA_17, 26, .inl (fun _ => 0))), (q_24, .inl (cA_16, 26, .inl (fun _ => 0))), (q_23, .inl (cA_15, 26, .inl (fun _ => 0))), (q_22, .inl (cA_14, 36, .inl (fun _ => 0))), (q_20, .inl (cA_12, 12, .inl (fun _ => 0))), (q_19, .inl (cA_11, 12, .inl (fun _ => 0))), (q_18, .inl (cA_10, 13, .inl (fun _ => 0))), (q_17, .inl (cA_9, 156, .inl (fun _ => 0))), (q_14, .inr (9, [.ref q_15, .int 0, .int 0])), (q_15, .inl (cA, 160, .inl (fun _ => 0))), (q_12, .inr (9, [.ref q_13, .int 0, .int 0])), (q_13, .inl (cA, 160, .inl (fun _ => 0))), (q_10, .inr (9, [.ref q_11, .int 0, .int 0])), (q_11, .inl (cA, 160, .inl (fun _ => 0))), (q_8, .inr (9, [.ref q_9, .int 0, .int 0])), (q_9, .inl (cA, 160, .inl (fun _ => 0))), (q_6, .inr (9, [.ref q_7, .int 0, .int 0])), (q_7, .inl (cA, 160, .inl (fun _ => 0))), (q_4, .inr (9, [.ref q_5, .int 0, .int 0])), (q_5, .inl (cA, 160, .inl (fun _ => 0))), (q_2, .inr (9, [.ref q_3, .int 0, .int 0])), (q_3, .inl (cA, 160, .inl (fun _ => 0))), (q, .inr (9, [.ref q_1, .int 0, .int 0])), (q_1, .inl (cA, 160, .inl (fun _ => 0)))] := by rw [eZ_18, eZ_17]; rfl
  clear eZ_17
  refine lv_aload_n hx hb px_d62_192 rfl (lv_at hl 0 rfl) ?_
  refine lv_sipush (v := 3744) hx hb px_d62_193 (by decide) ?_
  refine va_newa (atype := .int) (ty := .int) (n := 3744) (N' := 3744) (a0 := (3744, .inl (fun _ => 0))) hx hb (htw _ px_w2) rfl hK hP hD hS hA (fun _ => rfl) (by decide +kernel) (by decide +kernel) (by decide +kernel) (Nat.le_of_ble_eq_true rfl) (Nat.le_of_ble_eq_true rfl) px_d62_196 (fun q_28 cA_20 H hK hP hD hS => ?_)
  replace hP := hP.swap
  replace hD := hD.swap
  replace hP : va_P (dC, dI) vwCl (([(h0, .inr (8, fs20)), (q_16, .inl (cA_8, 156, .inr (.inr (.inr (.inr (fun _ => none)))))), (q_21, .inl (cA_13, 36, .inr (.inr (.inr (.inr (fun _ => none)))))), (q_28, .inl (cA_20, 3744, .inl (fun _ => 0)))] : va_W) ++ Z_18) H := hP
  replace hD : va_D A (([(h0, .inr (8, fs20)), (q_16, .inl (cA_8, 156, .inr (.inr (.inr (.inr (fun _ => none)))))), (q_21, .inl (cA_13, 36, .inr (.inr (.inr (.inr (fun _ => none)))))), (q_28, .inl (cA_20, 3744, .inl (fun _ => 0)))] : va_W) ++ Z_18) := hD
  replace hK : va_K (dC, dI) vwCl [(cA, .int), (cA, .int), (cA, .int), (cA, .int), (cA, .int), (cA, .int), (cA, .int), (cA, .int), (cA_8, .object "MatroidDeskModel$Num"), (cA_9, .int), (cA_10, .int), (cA_11, .int), (cA_12, .int), (cA_13, .object "MatroidDeskModel$Num"), (cA_14, .int), (cA_15, .boolean), (cA_16, .int), (cA_17, .int), (cA_18, .int), (cA_19, .int), (cA_20, .int)] s := hK
  refine W.widen (k := 29) (n := 95429) (Nat.le_of_ble_eq_true rfl) (Nat.le_of_ble_eq_true rfl) ?_
  refine va_putF (D := (dC, dI)) (ci := 8) (v := .ref q_28) (ty := (.array .int)) (C := "MatroidDeskModel") (T := px_T8) (N := 53) hx hb htw px_in8 px_ty8 px_tyok8 px_nm8 hown hK hP hD hS 0 rfl rfl 23 (by decide) (htw _ px_w507) (fun _ h9 => h9) rfl hin rfl (by decide +kernel) rfl rfl (by rw [hlen]; decide) px_d62_198 (fun H locs hP hD hS => ?_)
  replace hP : va_P (dC, dI) vwCl (([(h0, .inr (8, (fs20.set 23 (.ref q_28)))), (q_16, .inl (cA_8, 156, .inr (.inr (.inr (.inr (fun _ => none)))))), (q_21, .inl (cA_13, 36, .inr (.inr (.inr (.inr (fun _ => none)))))), (q_28, .inl (cA_20, 3744, .inl (fun _ => 0)))] : va_W) ++ Z_18) H := hP
  replace hD : va_D A (([(h0, .inr (8, (fs20.set 23 (.ref q_28)))), (q_16, .inl (cA_8, 156, .inr (.inr (.inr (.inr (fun _ => none)))))), (q_21, .inl (cA_13, 36, .inr (.inr (.inr (.inr (fun _ => none)))))), (q_28, .inl (cA_20, 3744, .inl (fun _ => 0)))] : va_W) ++ Z_18) := hD
  obtain ⟨fs21, efs_21⟩ : ∃ z : List Value, z = (fs20.set 23 (.ref q_28)) := ⟨_, rfl⟩
  rw [← efs_21] at hP hD
  replace hk_8 : fs21[8]? = some (.ref q_16) := by rw [efs_21]; exact (px_sn (by decide)).trans hk_8
  replace hk_16 : fs21[16]? = some (.ref q_21) := by rw [efs_21]; exact (px_sn (by decide)).trans hk_16
  replace hlen : fs21.length = 53 := by rw [efs_21]; exact px_sl hlen
  replace efs_21 : fs21 = [.ref q, .ref q_2, .ref q_4, .ref q_6, .ref q_8, .ref q_10, .ref q_12, .ref q_14, .ref q_16, .ref q_17, .int 0, .int 0, .int 0, .ref q_18, .ref q_19, .ref q_20, .ref q_21, .ref q_22, .ref q_23, .ref q_24, .ref q_25, .ref q_26, .ref q_27, .ref q_28, .null, .null, .null, .null, .null, .null, .null, .null, .int 0, .int 0, .null, .null, .null, .int 0, .int 0, .int 0, .int 0, .int 0, .int 0, .int 0, .null, .null, .null, .int 0, .null, .int 0, .null, .int 0, .int 0] := by rw [efs_21, efs_20]; rfl
  clear efs_20
  obtain ⟨Z_19, eZ_19⟩ : ∃ z : va_W, z = ([(q_28, .inl (cA_20, 3744, .inl (fun _ => 0)))] : va_W) ++ Z_18 := ⟨_, rfl⟩
  replace hP : va_P (dC, dI) vwCl (([(h0, .inr (8, fs21)), (q_16, .inl (cA_8, 156, .inr (.inr (.inr (.inr (fun _ => none)))))), (q_21, .inl (cA_13, 36, .inr (.inr (.inr (.inr (fun _ => none))))))] : va_W) ++ Z_19) H := by rw [eZ_19]; exact hP
  replace hD : va_D A (([(h0, .inr (8, fs21)), (q_16, .inl (cA_8, 156, .inr (.inr (.inr (.inr (fun _ => none)))))), (q_21, .inl (cA_13, 36, .inr (.inr (.inr (.inr (fun _ => none))))))] : va_W) ++ Z_19) := by rw [eZ_19]; exact hD
  replace eZ_19 : Z_19 = [(q_28, .inl (cA_20, 3744, .inl (fun _ => 0))), (q_27, .inl (cA_19, 89856, .inl (fun _ => 0))), (q_26, .inl (cA_18, 26, .inl (fun _ => 0))), (q_25, .inl (cA_17, 26, .inl (fun _ => 0))), (q_24, .inl (cA_16, 26, .inl (fun _ => 0))), (q_23, .inl (cA_15, 26, .inl (fun _ => 0))), (q_22, .inl (cA_14, 36, .inl (fun _ => 0))), (q_20, .inl (cA_12, 12, .inl (fun _ => 0))), (q_19, .inl (cA_11, 12, .inl (fun _ => 0))), (q_18, .inl (cA_10, 13, .inl (fun _ => 0))), (q_17, .inl (cA_9, 156, .inl (fun _ => 0))), (q_14, .inr (9, [.ref q_15, .int 0, .int 0])), (q_15, .inl (cA, 160, .inl (fun _ => 0))), (q_12, .inr (9, [.ref q_13, .int 0, .int 0])), (q_13, .inl (cA, 160, .inl (fun _ => 0))), (q_10, .inr (9, [.ref q_11, .int 0, .int 0])), (q_11, .inl (cA, 160, .inl (fun _ => 0))), (q_8, .inr (9, [.ref q_9, .int 0, .int 0])), (q_9, .inl (cA, 160, .inl (fun _ => 0))), (q_6, .inr (9, [.ref q_7, .int 0, .int 0])), (q_7, .inl (cA, 160, .inl (fun _ => 0))), (q_4, .inr (9, [.ref q_5, .int 0, .int 0])), (q_5, .inl (cA, 160, .inl (fun _ => 0))), (q_2, .inr (9, [.ref q_3, .int 0, .int 0])), (q_3, .inl (cA, 160, .inl (fun _ => 0))), (q, .inr (9, [.ref q_1, .int 0, .int 0])), (q_1, .inl (cA, 160, .inl (fun _ => 0)))] := by rw [eZ_19, eZ_18]; rfl
  clear eZ_18
  refine lv_aload_n hx hb px_d62_201 rfl (lv_at hl 0 rfl) ?_
  refine lv_sipush (v := 312) hx hb px_d62_202 (by decide) ?_
  refine va_newa (atype := .int) (ty := .int) (n := 312) (N' := 312) (a0 := (312, .inl (fun _ => 0))) hx hb (htw _ px_w2) rfl hK hP hD hS hA (fun _ => rfl) (by decide +kernel) (by decide +kernel) (by decide +kernel) (Nat.le_of_ble_eq_true rfl) (Nat.le_of_ble_eq_true rfl) px_d62_205 (fun q_29 cA_21 H hK hP hD hS => ?_)
  replace hP := hP.swap
  replace hD := hD.swap
  replace hP : va_P (dC, dI) vwCl (([(h0, .inr (8, fs21)), (q_16, .inl (cA_8, 156, .inr (.inr (.inr (.inr (fun _ => none)))))), (q_21, .inl (cA_13, 36, .inr (.inr (.inr (.inr (fun _ => none)))))), (q_29, .inl (cA_21, 312, .inl (fun _ => 0)))] : va_W) ++ Z_19) H := hP
  replace hD : va_D A (([(h0, .inr (8, fs21)), (q_16, .inl (cA_8, 156, .inr (.inr (.inr (.inr (fun _ => none)))))), (q_21, .inl (cA_13, 36, .inr (.inr (.inr (.inr (fun _ => none)))))), (q_29, .inl (cA_21, 312, .inl (fun _ => 0)))] : va_W) ++ Z_19) := hD
  replace hK : va_K (dC, dI) vwCl [(cA, .int), (cA, .int), (cA, .int), (cA, .int), (cA, .int), (cA, .int), (cA, .int), (cA, .int), (cA_8, .object "MatroidDeskModel$Num"), (cA_9, .int), (cA_10, .int), (cA_11, .int), (cA_12, .int), (cA_13, .object "MatroidDeskModel$Num"), (cA_14, .int), (cA_15, .boolean), (cA_16, .int), (cA_17, .int), (cA_18, .int), (cA_19, .int), (cA_20, .int), (cA_21, .int)] s := hK
  refine W.widen (k := 30) (n := 95741) (Nat.le_of_ble_eq_true rfl) (Nat.le_of_ble_eq_true rfl) ?_
  refine va_putF (D := (dC, dI)) (ci := 8) (v := .ref q_29) (ty := (.array .int)) (C := "MatroidDeskModel") (T := px_T8) (N := 53) hx hb htw px_in8 px_ty8 px_tyok8 px_nm8 hown hK hP hD hS 0 rfl rfl 24 (by decide) (htw _ px_w508) (fun _ h9 => h9) rfl hin rfl (by decide +kernel) rfl rfl (by rw [hlen]; decide) px_d62_207 (fun H locs hP hD hS => ?_)
  replace hP : va_P (dC, dI) vwCl (([(h0, .inr (8, (fs21.set 24 (.ref q_29)))), (q_16, .inl (cA_8, 156, .inr (.inr (.inr (.inr (fun _ => none)))))), (q_21, .inl (cA_13, 36, .inr (.inr (.inr (.inr (fun _ => none)))))), (q_29, .inl (cA_21, 312, .inl (fun _ => 0)))] : va_W) ++ Z_19) H := hP
  replace hD : va_D A (([(h0, .inr (8, (fs21.set 24 (.ref q_29)))), (q_16, .inl (cA_8, 156, .inr (.inr (.inr (.inr (fun _ => none)))))), (q_21, .inl (cA_13, 36, .inr (.inr (.inr (.inr (fun _ => none)))))), (q_29, .inl (cA_21, 312, .inl (fun _ => 0)))] : va_W) ++ Z_19) := hD
  obtain ⟨fs22, efs_22⟩ : ∃ z : List Value, z = (fs21.set 24 (.ref q_29)) := ⟨_, rfl⟩
  rw [← efs_22] at hP hD
  replace hk_8 : fs22[8]? = some (.ref q_16) := by rw [efs_22]; exact (px_sn (by decide)).trans hk_8
  replace hk_16 : fs22[16]? = some (.ref q_21) := by rw [efs_22]; exact (px_sn (by decide)).trans hk_16
  replace hlen : fs22.length = 53 := by rw [efs_22]; exact px_sl hlen
  replace efs_22 : fs22 = [.ref q, .ref q_2, .ref q_4, .ref q_6, .ref q_8, .ref q_10, .ref q_12, .ref q_14, .ref q_16, .ref q_17, .int 0, .int 0, .int 0, .ref q_18, .ref q_19, .ref q_20, .ref q_21, .ref q_22, .ref q_23, .ref q_24, .ref q_25, .ref q_26, .ref q_27, .ref q_28, .ref q_29, .null, .null, .null, .null, .null, .null, .null, .int 0, .int 0, .null, .null, .null, .int 0, .int 0, .int 0, .int 0, .int 0, .int 0, .int 0, .null, .null, .null, .int 0, .null, .int 0, .null, .int 0, .int 0] := by rw [efs_22, efs_21]; rfl
  clear efs_21
  obtain ⟨Z_20, eZ_20⟩ : ∃ z : va_W, z = ([(q_29, .inl (cA_21, 312, .inl (fun _ => 0)))] : va_W) ++ Z_19 := ⟨_, rfl⟩
  replace hP : va_P (dC, dI) vwCl (([(h0, .inr (8, fs22)), (q_16, .inl (cA_8, 156, .inr (.inr (.inr (.inr (fun _ => none)))))), (q_21, .inl (cA_13, 36, .inr (.inr (.inr (.inr (fun _ => none))))))] : va_W) ++ Z_20) H := by rw [eZ_20]; exact hP
  replace hD : va_D A (([(h0, .inr (8, fs22)), (q_16, .inl (cA_8, 156, .inr (.inr (.inr (.inr (fun _ => none)))))), (q_21, .inl (cA_13, 36, .inr (.inr (.inr (.inr (fun _ => none))))))] : va_W) ++ Z_20) := by rw [eZ_20]; exact hD
  replace eZ_20 : Z_20 = [(q_29, .inl (cA_21, 312, .inl (fun _ => 0))), (q_28, .inl (cA_20, 3744, .inl (fun _ => 0))), (q_27, .inl (cA_19, 89856, .inl (fun _ => 0))), (q_26, .inl (cA_18, 26, .inl (fun _ => 0))), (q_25, .inl (cA_17, 26, .inl (fun _ => 0))), (q_24, .inl (cA_16, 26, .inl (fun _ => 0))), (q_23, .inl (cA_15, 26, .inl (fun _ => 0))), (q_22, .inl (cA_14, 36, .inl (fun _ => 0))), (q_20, .inl (cA_12, 12, .inl (fun _ => 0))), (q_19, .inl (cA_11, 12, .inl (fun _ => 0))), (q_18, .inl (cA_10, 13, .inl (fun _ => 0))), (q_17, .inl (cA_9, 156, .inl (fun _ => 0))), (q_14, .inr (9, [.ref q_15, .int 0, .int 0])), (q_15, .inl (cA, 160, .inl (fun _ => 0))), (q_12, .inr (9, [.ref q_13, .int 0, .int 0])), (q_13, .inl (cA, 160, .inl (fun _ => 0))), (q_10, .inr (9, [.ref q_11, .int 0, .int 0])), (q_11, .inl (cA, 160, .inl (fun _ => 0))), (q_8, .inr (9, [.ref q_9, .int 0, .int 0])), (q_9, .inl (cA, 160, .inl (fun _ => 0))), (q_6, .inr (9, [.ref q_7, .int 0, .int 0])), (q_7, .inl (cA, 160, .inl (fun _ => 0))), (q_4, .inr (9, [.ref q_5, .int 0, .int 0])), (q_5, .inl (cA, 160, .inl (fun _ => 0))), (q_2, .inr (9, [.ref q_3, .int 0, .int 0])), (q_3, .inl (cA, 160, .inl (fun _ => 0))), (q, .inr (9, [.ref q_1, .int 0, .int 0])), (q_1, .inl (cA, 160, .inl (fun _ => 0)))] := by rw [eZ_20, eZ_19]; rfl
  clear eZ_19
  refine lv_aload_n hx hb px_d62_210 rfl (lv_at hl 0 rfl) ?_
  refine lv_ldc hx hb (own := "MatroidDeskModel") (index := 176) (v := 106496) hown (htw _ px_w509) px_d62_211 ?_
  refine va_newa (atype := .byte) (ty := .byte) (n := 106496) (N' := 106496) (a0 := (106496, .inl (fun _ => 0))) hx hb (htw _ px_w3) rfl hK hP hD hS hA (fun _ => rfl) (by decide +kernel) (by decide +kernel) (by decide +kernel) (Nat.le_of_ble_eq_true rfl) (Nat.le_of_ble_eq_true rfl) px_d62_213 (fun q_30 cA_22 H hK hP hD hS => ?_)
  replace hP := hP.swap
  replace hD := hD.swap
  replace hP : va_P (dC, dI) vwCl (([(h0, .inr (8, fs22)), (q_16, .inl (cA_8, 156, .inr (.inr (.inr (.inr (fun _ => none)))))), (q_21, .inl (cA_13, 36, .inr (.inr (.inr (.inr (fun _ => none)))))), (q_30, .inl (cA_22, 106496, .inl (fun _ => 0)))] : va_W) ++ Z_20) H := hP
  replace hD : va_D A (([(h0, .inr (8, fs22)), (q_16, .inl (cA_8, 156, .inr (.inr (.inr (.inr (fun _ => none)))))), (q_21, .inl (cA_13, 36, .inr (.inr (.inr (.inr (fun _ => none)))))), (q_30, .inl (cA_22, 106496, .inl (fun _ => 0)))] : va_W) ++ Z_20) := hD
  replace hK : va_K (dC, dI) vwCl [(cA, .int), (cA, .int), (cA, .int), (cA, .int), (cA, .int), (cA, .int), (cA, .int), (cA, .int), (cA_8, .object "MatroidDeskModel$Num"), (cA_9, .int), (cA_10, .int), (cA_11, .int), (cA_12, .int), (cA_13, .object "MatroidDeskModel$Num"), (cA_14, .int), (cA_15, .boolean), (cA_16, .int), (cA_17, .int), (cA_18, .int), (cA_19, .int), (cA_20, .int), (cA_21, .int), (cA_22, .byte)] s := hK
  refine W.widen (k := 31) (n := 202237) (Nat.le_of_ble_eq_true rfl) (Nat.le_of_ble_eq_true rfl) ?_
  refine va_putF (D := (dC, dI)) (ci := 8) (v := .ref q_30) (ty := (.array .byte)) (C := "MatroidDeskModel") (T := px_T8) (N := 53) hx hb htw px_in8 px_ty8 px_tyok8 px_nm8 hown hK hP hD hS 0 rfl rfl 25 (by decide) (htw _ px_w510) (fun _ h9 => h9) rfl hin rfl (by decide +kernel) rfl rfl (by rw [hlen]; decide) px_d62_215 (fun H locs hP hD hS => ?_)
  replace hP : va_P (dC, dI) vwCl (([(h0, .inr (8, (fs22.set 25 (.ref q_30)))), (q_16, .inl (cA_8, 156, .inr (.inr (.inr (.inr (fun _ => none)))))), (q_21, .inl (cA_13, 36, .inr (.inr (.inr (.inr (fun _ => none)))))), (q_30, .inl (cA_22, 106496, .inl (fun _ => 0)))] : va_W) ++ Z_20) H := hP
  replace hD : va_D A (([(h0, .inr (8, (fs22.set 25 (.ref q_30)))), (q_16, .inl (cA_8, 156, .inr (.inr (.inr (.inr (fun _ => none)))))), (q_21, .inl (cA_13, 36, .inr (.inr (.inr (.inr (fun _ => none)))))), (q_30, .inl (cA_22, 106496, .inl (fun _ => 0)))] : va_W) ++ Z_20) := hD
  obtain ⟨fs23, efs_23⟩ : ∃ z : List Value, z = (fs22.set 25 (.ref q_30)) := ⟨_, rfl⟩
  rw [← efs_23] at hP hD
  replace hk_8 : fs23[8]? = some (.ref q_16) := by rw [efs_23]; exact (px_sn (by decide)).trans hk_8
  replace hk_16 : fs23[16]? = some (.ref q_21) := by rw [efs_23]; exact (px_sn (by decide)).trans hk_16
  replace hlen : fs23.length = 53 := by rw [efs_23]; exact px_sl hlen
  replace efs_23 : fs23 = [.ref q, .ref q_2, .ref q_4, .ref q_6, .ref q_8, .ref q_10, .ref q_12, .ref q_14, .ref q_16, .ref q_17, .int 0, .int 0, .int 0, .ref q_18, .ref q_19, .ref q_20, .ref q_21, .ref q_22, .ref q_23, .ref q_24, .ref q_25, .ref q_26, .ref q_27, .ref q_28, .ref q_29, .ref q_30, .null, .null, .null, .null, .null, .null, .int 0, .int 0, .null, .null, .null, .int 0, .int 0, .int 0, .int 0, .int 0, .int 0, .int 0, .null, .null, .null, .int 0, .null, .int 0, .null, .int 0, .int 0] := by rw [efs_23, efs_22]; rfl
  clear efs_22
  obtain ⟨Z_21, eZ_21⟩ : ∃ z : va_W, z = ([(q_30, .inl (cA_22, 106496, .inl (fun _ => 0)))] : va_W) ++ Z_20 := ⟨_, rfl⟩
  replace hP : va_P (dC, dI) vwCl (([(h0, .inr (8, fs23)), (q_16, .inl (cA_8, 156, .inr (.inr (.inr (.inr (fun _ => none)))))), (q_21, .inl (cA_13, 36, .inr (.inr (.inr (.inr (fun _ => none))))))] : va_W) ++ Z_21) H := by rw [eZ_21]; exact hP
  replace hD : va_D A (([(h0, .inr (8, fs23)), (q_16, .inl (cA_8, 156, .inr (.inr (.inr (.inr (fun _ => none)))))), (q_21, .inl (cA_13, 36, .inr (.inr (.inr (.inr (fun _ => none))))))] : va_W) ++ Z_21) := by rw [eZ_21]; exact hD
  replace eZ_21 : Z_21 = [(q_30, .inl (cA_22, 106496, .inl (fun _ => 0))), (q_29, .inl (cA_21, 312, .inl (fun _ => 0))), (q_28, .inl (cA_20, 3744, .inl (fun _ => 0))), (q_27, .inl (cA_19, 89856, .inl (fun _ => 0))), (q_26, .inl (cA_18, 26, .inl (fun _ => 0))), (q_25, .inl (cA_17, 26, .inl (fun _ => 0))), (q_24, .inl (cA_16, 26, .inl (fun _ => 0))), (q_23, .inl (cA_15, 26, .inl (fun _ => 0))), (q_22, .inl (cA_14, 36, .inl (fun _ => 0))), (q_20, .inl (cA_12, 12, .inl (fun _ => 0))), (q_19, .inl (cA_11, 12, .inl (fun _ => 0))), (q_18, .inl (cA_10, 13, .inl (fun _ => 0))), (q_17, .inl (cA_9, 156, .inl (fun _ => 0))), (q_14, .inr (9, [.ref q_15, .int 0, .int 0])), (q_15, .inl (cA, 160, .inl (fun _ => 0))), (q_12, .inr (9, [.ref q_13, .int 0, .int 0])), (q_13, .inl (cA, 160, .inl (fun _ => 0))), (q_10, .inr (9, [.ref q_11, .int 0, .int 0])), (q_11, .inl (cA, 160, .inl (fun _ => 0))), (q_8, .inr (9, [.ref q_9, .int 0, .int 0])), (q_9, .inl (cA, 160, .inl (fun _ => 0))), (q_6, .inr (9, [.ref q_7, .int 0, .int 0])), (q_7, .inl (cA, 160, .inl (fun _ => 0))), (q_4, .inr (9, [.ref q_5, .int 0, .int 0])), (q_5, .inl (cA, 160, .inl (fun _ => 0))), (q_2, .inr (9, [.ref q_3, .int 0, .int 0])), (q_3, .inl (cA, 160, .inl (fun _ => 0))), (q, .inr (9, [.ref q_1, .int 0, .int 0])), (q_1, .inl (cA, 160, .inl (fun _ => 0)))] := by rw [eZ_21, eZ_20]; rfl
  clear eZ_20
  refine lv_aload_n hx hb px_d62_218 rfl (lv_at hl 0 rfl) ?_
  refine lv_ldc hx hb (own := "MatroidDeskModel") (index := 176) (v := 106496) hown (htw _ px_w509) px_d62_219 ?_
  refine va_newa (atype := .byte) (ty := .byte) (n := 106496) (N' := 106496) (a0 := (106496, .inl (fun _ => 0))) hx hb (htw _ px_w3) rfl hK hP hD hS hA (fun _ => rfl) (by decide +kernel) (by decide +kernel) (by decide +kernel) (Nat.le_of_ble_eq_true rfl) (Nat.le_of_ble_eq_true rfl) px_d62_221 (fun q_31 cA_23 H hK hP hD hS => ?_)
  replace hP := hP.swap
  replace hD := hD.swap
  replace hP : va_P (dC, dI) vwCl (([(h0, .inr (8, fs23)), (q_16, .inl (cA_8, 156, .inr (.inr (.inr (.inr (fun _ => none)))))), (q_21, .inl (cA_13, 36, .inr (.inr (.inr (.inr (fun _ => none)))))), (q_31, .inl (cA_23, 106496, .inl (fun _ => 0)))] : va_W) ++ Z_21) H := hP
  replace hD : va_D A (([(h0, .inr (8, fs23)), (q_16, .inl (cA_8, 156, .inr (.inr (.inr (.inr (fun _ => none)))))), (q_21, .inl (cA_13, 36, .inr (.inr (.inr (.inr (fun _ => none)))))), (q_31, .inl (cA_23, 106496, .inl (fun _ => 0)))] : va_W) ++ Z_21) := hD
  replace hK : va_K (dC, dI) vwCl [(cA, .int), (cA, .int), (cA, .int), (cA, .int), (cA, .int), (cA, .int), (cA, .int), (cA, .int), (cA_8, .object "MatroidDeskModel$Num"), (cA_9, .int), (cA_10, .int), (cA_11, .int), (cA_12, .int), (cA_13, .object "MatroidDeskModel$Num"), (cA_14, .int), (cA_15, .boolean), (cA_16, .int), (cA_17, .int), (cA_18, .int), (cA_19, .int), (cA_20, .int), (cA_21, .int), (cA_22, .byte), (cA_23, .byte)] s := hK
  refine W.widen (k := 32) (n := 308733) (Nat.le_of_ble_eq_true rfl) (Nat.le_of_ble_eq_true rfl) ?_
  refine va_putF (D := (dC, dI)) (ci := 8) (v := .ref q_31) (ty := (.array .byte)) (C := "MatroidDeskModel") (T := px_T8) (N := 53) hx hb htw px_in8 px_ty8 px_tyok8 px_nm8 hown hK hP hD hS 0 rfl rfl 26 (by decide) (htw _ px_w511) (fun _ h9 => h9) rfl hin rfl (by decide +kernel) rfl rfl (by rw [hlen]; decide) px_d62_223 (fun H locs hP hD hS => ?_)
  replace hP : va_P (dC, dI) vwCl (([(h0, .inr (8, (fs23.set 26 (.ref q_31)))), (q_16, .inl (cA_8, 156, .inr (.inr (.inr (.inr (fun _ => none)))))), (q_21, .inl (cA_13, 36, .inr (.inr (.inr (.inr (fun _ => none)))))), (q_31, .inl (cA_23, 106496, .inl (fun _ => 0)))] : va_W) ++ Z_21) H := hP
  replace hD : va_D A (([(h0, .inr (8, (fs23.set 26 (.ref q_31)))), (q_16, .inl (cA_8, 156, .inr (.inr (.inr (.inr (fun _ => none)))))), (q_21, .inl (cA_13, 36, .inr (.inr (.inr (.inr (fun _ => none)))))), (q_31, .inl (cA_23, 106496, .inl (fun _ => 0)))] : va_W) ++ Z_21) := hD
  obtain ⟨fs24, efs_24⟩ : ∃ z : List Value, z = (fs23.set 26 (.ref q_31)) := ⟨_, rfl⟩
  rw [← efs_24] at hP hD
  replace hk_8 : fs24[8]? = some (.ref q_16) := by rw [efs_24]; exact (px_sn (by decide)).trans hk_8
  replace hk_16 : fs24[16]? = some (.ref q_21) := by rw [efs_24]; exact (px_sn (by decide)).trans hk_16
  replace hlen : fs24.length = 53 := by rw [efs_24]; exact px_sl hlen
  replace efs_24 : fs24 = [.ref q, .ref q_2, .ref q_4, .ref q_6, .ref q_8, .ref q_10, .ref q_12, .ref q_14, .ref q_16, .ref q_17, .int 0, .int 0, .int 0, .ref q_18, .ref q_19, .ref q_20, .ref q_21, .ref q_22, .ref q_23, .ref q_24, .ref q_25, .ref q_26, .ref q_27, .ref q_28, .ref q_29, .ref q_30, .ref q_31, .null, .null, .null, .null, .null, .int 0, .int 0, .null, .null, .null, .int 0, .int 0, .int 0, .int 0, .int 0, .int 0, .int 0, .null, .null, .null, .int 0, .null, .int 0, .null, .int 0, .int 0] := by rw [efs_24, efs_23]; rfl
  clear efs_23
  obtain ⟨Z_22, eZ_22⟩ : ∃ z : va_W, z = ([(q_31, .inl (cA_23, 106496, .inl (fun _ => 0)))] : va_W) ++ Z_21 := ⟨_, rfl⟩
  replace hP : va_P (dC, dI) vwCl (([(h0, .inr (8, fs24)), (q_16, .inl (cA_8, 156, .inr (.inr (.inr (.inr (fun _ => none)))))), (q_21, .inl (cA_13, 36, .inr (.inr (.inr (.inr (fun _ => none))))))] : va_W) ++ Z_22) H := by rw [eZ_22]; exact hP
  replace hD : va_D A (([(h0, .inr (8, fs24)), (q_16, .inl (cA_8, 156, .inr (.inr (.inr (.inr (fun _ => none)))))), (q_21, .inl (cA_13, 36, .inr (.inr (.inr (.inr (fun _ => none))))))] : va_W) ++ Z_22) := by rw [eZ_22]; exact hD
  replace eZ_22 : Z_22 = [(q_31, .inl (cA_23, 106496, .inl (fun _ => 0))), (q_30, .inl (cA_22, 106496, .inl (fun _ => 0))), (q_29, .inl (cA_21, 312, .inl (fun _ => 0))), (q_28, .inl (cA_20, 3744, .inl (fun _ => 0))), (q_27, .inl (cA_19, 89856, .inl (fun _ => 0))), (q_26, .inl (cA_18, 26, .inl (fun _ => 0))), (q_25, .inl (cA_17, 26, .inl (fun _ => 0))), (q_24, .inl (cA_16, 26, .inl (fun _ => 0))), (q_23, .inl (cA_15, 26, .inl (fun _ => 0))), (q_22, .inl (cA_14, 36, .inl (fun _ => 0))), (q_20, .inl (cA_12, 12, .inl (fun _ => 0))), (q_19, .inl (cA_11, 12, .inl (fun _ => 0))), (q_18, .inl (cA_10, 13, .inl (fun _ => 0))), (q_17, .inl (cA_9, 156, .inl (fun _ => 0))), (q_14, .inr (9, [.ref q_15, .int 0, .int 0])), (q_15, .inl (cA, 160, .inl (fun _ => 0))), (q_12, .inr (9, [.ref q_13, .int 0, .int 0])), (q_13, .inl (cA, 160, .inl (fun _ => 0))), (q_10, .inr (9, [.ref q_11, .int 0, .int 0])), (q_11, .inl (cA, 160, .inl (fun _ => 0))), (q_8, .inr (9, [.ref q_9, .int 0, .int 0])), (q_9, .inl (cA, 160, .inl (fun _ => 0))), (q_6, .inr (9, [.ref q_7, .int 0, .int 0])), (q_7, .inl (cA, 160, .inl (fun _ => 0))), (q_4, .inr (9, [.ref q_5, .int 0, .int 0])), (q_5, .inl (cA, 160, .inl (fun _ => 0))), (q_2, .inr (9, [.ref q_3, .int 0, .int 0])), (q_3, .inl (cA, 160, .inl (fun _ => 0))), (q, .inr (9, [.ref q_1, .int 0, .int 0])), (q_1, .inl (cA, 160, .inl (fun _ => 0)))] := by rw [eZ_22, eZ_21]; rfl
  clear eZ_21
  refine lv_aload_n hx hb px_d62_226 rfl (lv_at hl 0 rfl) ?_
  refine lv_sipush (v := 4096) hx hb px_d62_227 (by decide) ?_
  refine va_newa (atype := .int) (ty := .int) (n := 4096) (N' := 4096) (a0 := (4096, .inl (fun _ => 0))) hx hb (htw _ px_w2) rfl hK hP hD hS hA (fun _ => rfl) (by decide +kernel) (by decide +kernel) (by decide +kernel) (Nat.le_of_ble_eq_true rfl) (Nat.le_of_ble_eq_true rfl) px_d62_230 (fun q_32 cA_24 H hK hP hD hS => ?_)
  replace hP := hP.swap
  replace hD := hD.swap
  replace hP : va_P (dC, dI) vwCl (([(h0, .inr (8, fs24)), (q_16, .inl (cA_8, 156, .inr (.inr (.inr (.inr (fun _ => none)))))), (q_21, .inl (cA_13, 36, .inr (.inr (.inr (.inr (fun _ => none)))))), (q_32, .inl (cA_24, 4096, .inl (fun _ => 0)))] : va_W) ++ Z_22) H := hP
  replace hD : va_D A (([(h0, .inr (8, fs24)), (q_16, .inl (cA_8, 156, .inr (.inr (.inr (.inr (fun _ => none)))))), (q_21, .inl (cA_13, 36, .inr (.inr (.inr (.inr (fun _ => none)))))), (q_32, .inl (cA_24, 4096, .inl (fun _ => 0)))] : va_W) ++ Z_22) := hD
  replace hK : va_K (dC, dI) vwCl [(cA, .int), (cA, .int), (cA, .int), (cA, .int), (cA, .int), (cA, .int), (cA, .int), (cA, .int), (cA_8, .object "MatroidDeskModel$Num"), (cA_9, .int), (cA_10, .int), (cA_11, .int), (cA_12, .int), (cA_13, .object "MatroidDeskModel$Num"), (cA_14, .int), (cA_15, .boolean), (cA_16, .int), (cA_17, .int), (cA_18, .int), (cA_19, .int), (cA_20, .int), (cA_21, .int), (cA_22, .byte), (cA_23, .byte), (cA_24, .int)] s := hK
  refine W.widen (k := 33) (n := 312829) (Nat.le_of_ble_eq_true rfl) (Nat.le_of_ble_eq_true rfl) ?_
  refine va_putF (D := (dC, dI)) (ci := 8) (v := .ref q_32) (ty := (.array .int)) (C := "MatroidDeskModel") (T := px_T8) (N := 53) hx hb htw px_in8 px_ty8 px_tyok8 px_nm8 hown hK hP hD hS 0 rfl rfl 27 (by decide) (htw _ px_w512) (fun _ h9 => h9) rfl hin rfl (by decide +kernel) rfl rfl (by rw [hlen]; decide) px_d62_232 (fun H locs hP hD hS => ?_)
  replace hP : va_P (dC, dI) vwCl (([(h0, .inr (8, (fs24.set 27 (.ref q_32)))), (q_16, .inl (cA_8, 156, .inr (.inr (.inr (.inr (fun _ => none)))))), (q_21, .inl (cA_13, 36, .inr (.inr (.inr (.inr (fun _ => none)))))), (q_32, .inl (cA_24, 4096, .inl (fun _ => 0)))] : va_W) ++ Z_22) H := hP
  replace hD : va_D A (([(h0, .inr (8, (fs24.set 27 (.ref q_32)))), (q_16, .inl (cA_8, 156, .inr (.inr (.inr (.inr (fun _ => none)))))), (q_21, .inl (cA_13, 36, .inr (.inr (.inr (.inr (fun _ => none)))))), (q_32, .inl (cA_24, 4096, .inl (fun _ => 0)))] : va_W) ++ Z_22) := hD
  obtain ⟨fs25, efs_25⟩ : ∃ z : List Value, z = (fs24.set 27 (.ref q_32)) := ⟨_, rfl⟩
  rw [← efs_25] at hP hD
  replace hk_8 : fs25[8]? = some (.ref q_16) := by rw [efs_25]; exact (px_sn (by decide)).trans hk_8
  replace hk_16 : fs25[16]? = some (.ref q_21) := by rw [efs_25]; exact (px_sn (by decide)).trans hk_16
  have hk_27 : fs25[27]? = some (.ref q_32) := by rw [efs_25]; exact px_ss hlen (by decide)
  replace hlen : fs25.length = 53 := by rw [efs_25]; exact px_sl hlen
  replace efs_25 : fs25 = [.ref q, .ref q_2, .ref q_4, .ref q_6, .ref q_8, .ref q_10, .ref q_12, .ref q_14, .ref q_16, .ref q_17, .int 0, .int 0, .int 0, .ref q_18, .ref q_19, .ref q_20, .ref q_21, .ref q_22, .ref q_23, .ref q_24, .ref q_25, .ref q_26, .ref q_27, .ref q_28, .ref q_29, .ref q_30, .ref q_31, .ref q_32, .null, .null, .null, .null, .int 0, .int 0, .null, .null, .null, .int 0, .int 0, .int 0, .int 0, .int 0, .int 0, .int 0, .null, .null, .null, .int 0, .null, .int 0, .null, .int 0, .int 0] := by rw [efs_25, efs_24]; rfl
  clear efs_24
  refine lv_aload_n hx hb px_d62_235 rfl (lv_at hl 0 rfl) ?_
  refine lv_sipush (v := 4096) hx hb px_d62_236 (by decide) ?_
  refine va_newa (atype := .int) (ty := .int) (n := 4096) (N' := 4096) (a0 := (4096, .inl (fun _ => 0))) hx hb (htw _ px_w2) rfl hK hP hD hS hA (fun _ => rfl) (by decide +kernel) (by decide +kernel) (by decide +kernel) (Nat.le_of_ble_eq_true rfl) (Nat.le_of_ble_eq_true rfl) px_d62_239 (fun q_33 cA_25 H hK hP hD hS => ?_)
  replace hP := hP.swap
  replace hD := hD.swap
  replace hP : va_P (dC, dI) vwCl (([(h0, .inr (8, fs25)), (q_16, .inl (cA_8, 156, .inr (.inr (.inr (.inr (fun _ => none)))))), (q_21, .inl (cA_13, 36, .inr (.inr (.inr (.inr (fun _ => none)))))), (q_32, .inl (cA_24, 4096, .inl (fun _ => 0))), (q_33, .inl (cA_25, 4096, .inl (fun _ => 0)))] : va_W) ++ Z_22) H := hP
  replace hD : va_D A (([(h0, .inr (8, fs25)), (q_16, .inl (cA_8, 156, .inr (.inr (.inr (.inr (fun _ => none)))))), (q_21, .inl (cA_13, 36, .inr (.inr (.inr (.inr (fun _ => none)))))), (q_32, .inl (cA_24, 4096, .inl (fun _ => 0))), (q_33, .inl (cA_25, 4096, .inl (fun _ => 0)))] : va_W) ++ Z_22) := hD
  replace hK : va_K (dC, dI) vwCl [(cA, .int), (cA, .int), (cA, .int), (cA, .int), (cA, .int), (cA, .int), (cA, .int), (cA, .int), (cA_8, .object "MatroidDeskModel$Num"), (cA_9, .int), (cA_10, .int), (cA_11, .int), (cA_12, .int), (cA_13, .object "MatroidDeskModel$Num"), (cA_14, .int), (cA_15, .boolean), (cA_16, .int), (cA_17, .int), (cA_18, .int), (cA_19, .int), (cA_20, .int), (cA_21, .int), (cA_22, .byte), (cA_23, .byte), (cA_24, .int), (cA_25, .int)] s := hK
  refine W.widen (k := 34) (n := 316925) (Nat.le_of_ble_eq_true rfl) (Nat.le_of_ble_eq_true rfl) ?_
  refine va_putF (D := (dC, dI)) (ci := 8) (v := .ref q_33) (ty := (.array .int)) (C := "MatroidDeskModel") (T := px_T8) (N := 53) hx hb htw px_in8 px_ty8 px_tyok8 px_nm8 hown hK hP hD hS 0 rfl rfl 28 (by decide) (htw _ px_w513) (fun _ h9 => h9) rfl hin rfl (by decide +kernel) rfl rfl (by rw [hlen]; decide) px_d62_241 (fun H locs hP hD hS => ?_)
  replace hP : va_P (dC, dI) vwCl (([(h0, .inr (8, (fs25.set 28 (.ref q_33)))), (q_16, .inl (cA_8, 156, .inr (.inr (.inr (.inr (fun _ => none)))))), (q_21, .inl (cA_13, 36, .inr (.inr (.inr (.inr (fun _ => none)))))), (q_32, .inl (cA_24, 4096, .inl (fun _ => 0))), (q_33, .inl (cA_25, 4096, .inl (fun _ => 0)))] : va_W) ++ Z_22) H := hP
  replace hD : va_D A (([(h0, .inr (8, (fs25.set 28 (.ref q_33)))), (q_16, .inl (cA_8, 156, .inr (.inr (.inr (.inr (fun _ => none)))))), (q_21, .inl (cA_13, 36, .inr (.inr (.inr (.inr (fun _ => none)))))), (q_32, .inl (cA_24, 4096, .inl (fun _ => 0))), (q_33, .inl (cA_25, 4096, .inl (fun _ => 0)))] : va_W) ++ Z_22) := hD
  obtain ⟨fs26, efs_26⟩ : ∃ z : List Value, z = (fs25.set 28 (.ref q_33)) := ⟨_, rfl⟩
  rw [← efs_26] at hP hD
  replace hk_8 : fs26[8]? = some (.ref q_16) := by rw [efs_26]; exact (px_sn (by decide)).trans hk_8
  replace hk_16 : fs26[16]? = some (.ref q_21) := by rw [efs_26]; exact (px_sn (by decide)).trans hk_16
  replace hk_27 : fs26[27]? = some (.ref q_32) := by rw [efs_26]; exact (px_sn (by decide)).trans hk_27
  have hk_28 : fs26[28]? = some (.ref q_33) := by rw [efs_26]; exact px_ss hlen (by decide)
  replace hlen : fs26.length = 53 := by rw [efs_26]; exact px_sl hlen
  replace efs_26 : fs26 = [.ref q, .ref q_2, .ref q_4, .ref q_6, .ref q_8, .ref q_10, .ref q_12, .ref q_14, .ref q_16, .ref q_17, .int 0, .int 0, .int 0, .ref q_18, .ref q_19, .ref q_20, .ref q_21, .ref q_22, .ref q_23, .ref q_24, .ref q_25, .ref q_26, .ref q_27, .ref q_28, .ref q_29, .ref q_30, .ref q_31, .ref q_32, .ref q_33, .null, .null, .null, .int 0, .int 0, .null, .null, .null, .int 0, .int 0, .int 0, .int 0, .int 0, .int 0, .int 0, .null, .null, .null, .int 0, .null, .int 0, .null, .int 0, .int 0] := by rw [efs_26, efs_25]; rfl
  clear efs_25
  refine lv_aload_n hx hb px_d62_244 rfl (lv_at hl 0 rfl) ?_
  refine lv_sipush (v := 169) hx hb px_d62_245 (by decide) ?_
  refine va_newa (atype := .long) (ty := .long) (n := 169) (N' := 169) (a0 := (169, .inr (.inl (fun _ => 0)))) hx hb (htw _ px_w4) rfl hK hP hD hS hA (fun _ => rfl) (by decide +kernel) (by decide +kernel) (by decide +kernel) (Nat.le_of_ble_eq_true rfl) (Nat.le_of_ble_eq_true rfl) px_d62_248 (fun q_34 cA_26 H hK hP hD hS => ?_)
  replace hP := hP.swap
  replace hD := hD.swap
  replace hP : va_P (dC, dI) vwCl (([(h0, .inr (8, fs26)), (q_16, .inl (cA_8, 156, .inr (.inr (.inr (.inr (fun _ => none)))))), (q_21, .inl (cA_13, 36, .inr (.inr (.inr (.inr (fun _ => none)))))), (q_32, .inl (cA_24, 4096, .inl (fun _ => 0))), (q_33, .inl (cA_25, 4096, .inl (fun _ => 0))), (q_34, .inl (cA_26, 169, .inr (.inl (fun _ => 0))))] : va_W) ++ Z_22) H := hP
  replace hD : va_D A (([(h0, .inr (8, fs26)), (q_16, .inl (cA_8, 156, .inr (.inr (.inr (.inr (fun _ => none)))))), (q_21, .inl (cA_13, 36, .inr (.inr (.inr (.inr (fun _ => none)))))), (q_32, .inl (cA_24, 4096, .inl (fun _ => 0))), (q_33, .inl (cA_25, 4096, .inl (fun _ => 0))), (q_34, .inl (cA_26, 169, .inr (.inl (fun _ => 0))))] : va_W) ++ Z_22) := hD
  replace hK : va_K (dC, dI) vwCl [(cA, .int), (cA, .int), (cA, .int), (cA, .int), (cA, .int), (cA, .int), (cA, .int), (cA, .int), (cA_8, .object "MatroidDeskModel$Num"), (cA_9, .int), (cA_10, .int), (cA_11, .int), (cA_12, .int), (cA_13, .object "MatroidDeskModel$Num"), (cA_14, .int), (cA_15, .boolean), (cA_16, .int), (cA_17, .int), (cA_18, .int), (cA_19, .int), (cA_20, .int), (cA_21, .int), (cA_22, .byte), (cA_23, .byte), (cA_24, .int), (cA_25, .int), (cA_26, .long)] s := hK
  refine W.widen (k := 35) (n := 317094) (Nat.le_of_ble_eq_true rfl) (Nat.le_of_ble_eq_true rfl) ?_
  refine va_putF (D := (dC, dI)) (ci := 8) (v := .ref q_34) (ty := (.array .long)) (C := "MatroidDeskModel") (T := px_T8) (N := 53) hx hb htw px_in8 px_ty8 px_tyok8 px_nm8 hown hK hP hD hS 0 rfl rfl 29 (by decide) (htw _ px_w514) (fun _ h9 => h9) rfl hin rfl (by decide +kernel) rfl rfl (by rw [hlen]; decide) px_d62_250 (fun H locs hP hD hS => ?_)
  replace hP : va_P (dC, dI) vwCl (([(h0, .inr (8, (fs26.set 29 (.ref q_34)))), (q_16, .inl (cA_8, 156, .inr (.inr (.inr (.inr (fun _ => none)))))), (q_21, .inl (cA_13, 36, .inr (.inr (.inr (.inr (fun _ => none)))))), (q_32, .inl (cA_24, 4096, .inl (fun _ => 0))), (q_33, .inl (cA_25, 4096, .inl (fun _ => 0))), (q_34, .inl (cA_26, 169, .inr (.inl (fun _ => 0))))] : va_W) ++ Z_22) H := hP
  replace hD : va_D A (([(h0, .inr (8, (fs26.set 29 (.ref q_34)))), (q_16, .inl (cA_8, 156, .inr (.inr (.inr (.inr (fun _ => none)))))), (q_21, .inl (cA_13, 36, .inr (.inr (.inr (.inr (fun _ => none)))))), (q_32, .inl (cA_24, 4096, .inl (fun _ => 0))), (q_33, .inl (cA_25, 4096, .inl (fun _ => 0))), (q_34, .inl (cA_26, 169, .inr (.inl (fun _ => 0))))] : va_W) ++ Z_22) := hD
  obtain ⟨fs27, efs_27⟩ : ∃ z : List Value, z = (fs26.set 29 (.ref q_34)) := ⟨_, rfl⟩
  rw [← efs_27] at hP hD
  replace hk_8 : fs27[8]? = some (.ref q_16) := by rw [efs_27]; exact (px_sn (by decide)).trans hk_8
  replace hk_16 : fs27[16]? = some (.ref q_21) := by rw [efs_27]; exact (px_sn (by decide)).trans hk_16
  replace hk_27 : fs27[27]? = some (.ref q_32) := by rw [efs_27]; exact (px_sn (by decide)).trans hk_27
  replace hk_28 : fs27[28]? = some (.ref q_33) := by rw [efs_27]; exact (px_sn (by decide)).trans hk_28
  replace hlen : fs27.length = 53 := by rw [efs_27]; exact px_sl hlen
  replace efs_27 : fs27 = [.ref q, .ref q_2, .ref q_4, .ref q_6, .ref q_8, .ref q_10, .ref q_12, .ref q_14, .ref q_16, .ref q_17, .int 0, .int 0, .int 0, .ref q_18, .ref q_19, .ref q_20, .ref q_21, .ref q_22, .ref q_23, .ref q_24, .ref q_25, .ref q_26, .ref q_27, .ref q_28, .ref q_29, .ref q_30, .ref q_31, .ref q_32, .ref q_33, .ref q_34, .null, .null, .int 0, .int 0, .null, .null, .null, .int 0, .int 0, .int 0, .int 0, .int 0, .int 0, .int 0, .null, .null, .null, .int 0, .null, .int 0, .null, .int 0, .int 0] := by rw [efs_27, efs_26]; rfl
  clear efs_26
  obtain ⟨Z_23, eZ_23⟩ : ∃ z : va_W, z = ([(q_34, .inl (cA_26, 169, .inr (.inl (fun _ => 0))))] : va_W) ++ Z_22 := ⟨_, rfl⟩
  replace hP : va_P (dC, dI) vwCl (([(h0, .inr (8, fs27)), (q_16, .inl (cA_8, 156, .inr (.inr (.inr (.inr (fun _ => none)))))), (q_21, .inl (cA_13, 36, .inr (.inr (.inr (.inr (fun _ => none)))))), (q_32, .inl (cA_24, 4096, .inl (fun _ => 0))), (q_33, .inl (cA_25, 4096, .inl (fun _ => 0)))] : va_W) ++ Z_23) H := by rw [eZ_23]; exact hP
  replace hD : va_D A (([(h0, .inr (8, fs27)), (q_16, .inl (cA_8, 156, .inr (.inr (.inr (.inr (fun _ => none)))))), (q_21, .inl (cA_13, 36, .inr (.inr (.inr (.inr (fun _ => none)))))), (q_32, .inl (cA_24, 4096, .inl (fun _ => 0))), (q_33, .inl (cA_25, 4096, .inl (fun _ => 0)))] : va_W) ++ Z_23) := by rw [eZ_23]; exact hD
  replace eZ_23 : Z_23 = [(q_34, .inl (cA_26, 169, .inr (.inl (fun _ => 0)))), (q_31, .inl (cA_23, 106496, .inl (fun _ => 0))), (q_30, .inl (cA_22, 106496, .inl (fun _ => 0))), (q_29, .inl (cA_21, 312, .inl (fun _ => 0))), (q_28, .inl (cA_20, 3744, .inl (fun _ => 0))), (q_27, .inl (cA_19, 89856, .inl (fun _ => 0))), (q_26, .inl (cA_18, 26, .inl (fun _ => 0))), (q_25, .inl (cA_17, 26, .inl (fun _ => 0))), (q_24, .inl (cA_16, 26, .inl (fun _ => 0))), (q_23, .inl (cA_15, 26, .inl (fun _ => 0))), (q_22, .inl (cA_14, 36, .inl (fun _ => 0))), (q_20, .inl (cA_12, 12, .inl (fun _ => 0))), (q_19, .inl (cA_11, 12, .inl (fun _ => 0))), (q_18, .inl (cA_10, 13, .inl (fun _ => 0))), (q_17, .inl (cA_9, 156, .inl (fun _ => 0))), (q_14, .inr (9, [.ref q_15, .int 0, .int 0])), (q_15, .inl (cA, 160, .inl (fun _ => 0))), (q_12, .inr (9, [.ref q_13, .int 0, .int 0])), (q_13, .inl (cA, 160, .inl (fun _ => 0))), (q_10, .inr (9, [.ref q_11, .int 0, .int 0])), (q_11, .inl (cA, 160, .inl (fun _ => 0))), (q_8, .inr (9, [.ref q_9, .int 0, .int 0])), (q_9, .inl (cA, 160, .inl (fun _ => 0))), (q_6, .inr (9, [.ref q_7, .int 0, .int 0])), (q_7, .inl (cA, 160, .inl (fun _ => 0))), (q_4, .inr (9, [.ref q_5, .int 0, .int 0])), (q_5, .inl (cA, 160, .inl (fun _ => 0))), (q_2, .inr (9, [.ref q_3, .int 0, .int 0])), (q_3, .inl (cA, 160, .inl (fun _ => 0))), (q, .inr (9, [.ref q_1, .int 0, .int 0])), (q_1, .inl (cA, 160, .inl (fun _ => 0)))] := by rw [eZ_23, eZ_22]; rfl
  clear eZ_22
  refine lv_aload_n hx hb px_d62_253 rfl (lv_at hl 0 rfl) ?_
  refine lv_sipush (v := 169) hx hb px_d62_254 (by decide) ?_
  refine va_newa (atype := .long) (ty := .long) (n := 169) (N' := 169) (a0 := (169, .inr (.inl (fun _ => 0)))) hx hb (htw _ px_w4) rfl hK hP hD hS hA (fun _ => rfl) (by decide +kernel) (by decide +kernel) (by decide +kernel) (Nat.le_of_ble_eq_true rfl) (Nat.le_of_ble_eq_true rfl) px_d62_257 (fun q_35 cA_27 H hK hP hD hS => ?_)
  replace hP := hP.swap
  replace hD := hD.swap
  replace hP : va_P (dC, dI) vwCl (([(h0, .inr (8, fs27)), (q_16, .inl (cA_8, 156, .inr (.inr (.inr (.inr (fun _ => none)))))), (q_21, .inl (cA_13, 36, .inr (.inr (.inr (.inr (fun _ => none)))))), (q_32, .inl (cA_24, 4096, .inl (fun _ => 0))), (q_33, .inl (cA_25, 4096, .inl (fun _ => 0))), (q_35, .inl (cA_27, 169, .inr (.inl (fun _ => 0))))] : va_W) ++ Z_23) H := hP
  replace hD : va_D A (([(h0, .inr (8, fs27)), (q_16, .inl (cA_8, 156, .inr (.inr (.inr (.inr (fun _ => none)))))), (q_21, .inl (cA_13, 36, .inr (.inr (.inr (.inr (fun _ => none)))))), (q_32, .inl (cA_24, 4096, .inl (fun _ => 0))), (q_33, .inl (cA_25, 4096, .inl (fun _ => 0))), (q_35, .inl (cA_27, 169, .inr (.inl (fun _ => 0))))] : va_W) ++ Z_23) := hD
  replace hK : va_K (dC, dI) vwCl [(cA, .int), (cA, .int), (cA, .int), (cA, .int), (cA, .int), (cA, .int), (cA, .int), (cA, .int), (cA_8, .object "MatroidDeskModel$Num"), (cA_9, .int), (cA_10, .int), (cA_11, .int), (cA_12, .int), (cA_13, .object "MatroidDeskModel$Num"), (cA_14, .int), (cA_15, .boolean), (cA_16, .int), (cA_17, .int), (cA_18, .int), (cA_19, .int), (cA_20, .int), (cA_21, .int), (cA_22, .byte), (cA_23, .byte), (cA_24, .int), (cA_25, .int), (cA_26, .long), (cA_27, .long)] s := hK
  refine W.widen (k := 36) (n := 317263) (Nat.le_of_ble_eq_true rfl) (Nat.le_of_ble_eq_true rfl) ?_
  refine va_putF (D := (dC, dI)) (ci := 8) (v := .ref q_35) (ty := (.array .long)) (C := "MatroidDeskModel") (T := px_T8) (N := 53) hx hb htw px_in8 px_ty8 px_tyok8 px_nm8 hown hK hP hD hS 0 rfl rfl 30 (by decide) (htw _ px_w515) (fun _ h9 => h9) rfl hin rfl (by decide +kernel) rfl rfl (by rw [hlen]; decide) px_d62_259 (fun H locs hP hD hS => ?_)
  replace hP : va_P (dC, dI) vwCl (([(h0, .inr (8, (fs27.set 30 (.ref q_35)))), (q_16, .inl (cA_8, 156, .inr (.inr (.inr (.inr (fun _ => none)))))), (q_21, .inl (cA_13, 36, .inr (.inr (.inr (.inr (fun _ => none)))))), (q_32, .inl (cA_24, 4096, .inl (fun _ => 0))), (q_33, .inl (cA_25, 4096, .inl (fun _ => 0))), (q_35, .inl (cA_27, 169, .inr (.inl (fun _ => 0))))] : va_W) ++ Z_23) H := hP
  replace hD : va_D A (([(h0, .inr (8, (fs27.set 30 (.ref q_35)))), (q_16, .inl (cA_8, 156, .inr (.inr (.inr (.inr (fun _ => none)))))), (q_21, .inl (cA_13, 36, .inr (.inr (.inr (.inr (fun _ => none)))))), (q_32, .inl (cA_24, 4096, .inl (fun _ => 0))), (q_33, .inl (cA_25, 4096, .inl (fun _ => 0))), (q_35, .inl (cA_27, 169, .inr (.inl (fun _ => 0))))] : va_W) ++ Z_23) := hD
  obtain ⟨fs28, efs_28⟩ : ∃ z : List Value, z = (fs27.set 30 (.ref q_35)) := ⟨_, rfl⟩
  rw [← efs_28] at hP hD
  replace hk_8 : fs28[8]? = some (.ref q_16) := by rw [efs_28]; exact (px_sn (by decide)).trans hk_8
  replace hk_16 : fs28[16]? = some (.ref q_21) := by rw [efs_28]; exact (px_sn (by decide)).trans hk_16
  replace hk_27 : fs28[27]? = some (.ref q_32) := by rw [efs_28]; exact (px_sn (by decide)).trans hk_27
  replace hk_28 : fs28[28]? = some (.ref q_33) := by rw [efs_28]; exact (px_sn (by decide)).trans hk_28
  replace hlen : fs28.length = 53 := by rw [efs_28]; exact px_sl hlen
  replace efs_28 : fs28 = [.ref q, .ref q_2, .ref q_4, .ref q_6, .ref q_8, .ref q_10, .ref q_12, .ref q_14, .ref q_16, .ref q_17, .int 0, .int 0, .int 0, .ref q_18, .ref q_19, .ref q_20, .ref q_21, .ref q_22, .ref q_23, .ref q_24, .ref q_25, .ref q_26, .ref q_27, .ref q_28, .ref q_29, .ref q_30, .ref q_31, .ref q_32, .ref q_33, .ref q_34, .ref q_35, .null, .int 0, .int 0, .null, .null, .null, .int 0, .int 0, .int 0, .int 0, .int 0, .int 0, .int 0, .null, .null, .null, .int 0, .null, .int 0, .null, .int 0, .int 0] := by rw [efs_28, efs_27]; rfl
  clear efs_27
  obtain ⟨Z_24, eZ_24⟩ : ∃ z : va_W, z = ([(q_35, .inl (cA_27, 169, .inr (.inl (fun _ => 0))))] : va_W) ++ Z_23 := ⟨_, rfl⟩
  replace hP : va_P (dC, dI) vwCl (([(h0, .inr (8, fs28)), (q_16, .inl (cA_8, 156, .inr (.inr (.inr (.inr (fun _ => none)))))), (q_21, .inl (cA_13, 36, .inr (.inr (.inr (.inr (fun _ => none)))))), (q_32, .inl (cA_24, 4096, .inl (fun _ => 0))), (q_33, .inl (cA_25, 4096, .inl (fun _ => 0)))] : va_W) ++ Z_24) H := by rw [eZ_24]; exact hP
  replace hD : va_D A (([(h0, .inr (8, fs28)), (q_16, .inl (cA_8, 156, .inr (.inr (.inr (.inr (fun _ => none)))))), (q_21, .inl (cA_13, 36, .inr (.inr (.inr (.inr (fun _ => none)))))), (q_32, .inl (cA_24, 4096, .inl (fun _ => 0))), (q_33, .inl (cA_25, 4096, .inl (fun _ => 0)))] : va_W) ++ Z_24) := by rw [eZ_24]; exact hD
  replace eZ_24 : Z_24 = [(q_35, .inl (cA_27, 169, .inr (.inl (fun _ => 0)))), (q_34, .inl (cA_26, 169, .inr (.inl (fun _ => 0)))), (q_31, .inl (cA_23, 106496, .inl (fun _ => 0))), (q_30, .inl (cA_22, 106496, .inl (fun _ => 0))), (q_29, .inl (cA_21, 312, .inl (fun _ => 0))), (q_28, .inl (cA_20, 3744, .inl (fun _ => 0))), (q_27, .inl (cA_19, 89856, .inl (fun _ => 0))), (q_26, .inl (cA_18, 26, .inl (fun _ => 0))), (q_25, .inl (cA_17, 26, .inl (fun _ => 0))), (q_24, .inl (cA_16, 26, .inl (fun _ => 0))), (q_23, .inl (cA_15, 26, .inl (fun _ => 0))), (q_22, .inl (cA_14, 36, .inl (fun _ => 0))), (q_20, .inl (cA_12, 12, .inl (fun _ => 0))), (q_19, .inl (cA_11, 12, .inl (fun _ => 0))), (q_18, .inl (cA_10, 13, .inl (fun _ => 0))), (q_17, .inl (cA_9, 156, .inl (fun _ => 0))), (q_14, .inr (9, [.ref q_15, .int 0, .int 0])), (q_15, .inl (cA, 160, .inl (fun _ => 0))), (q_12, .inr (9, [.ref q_13, .int 0, .int 0])), (q_13, .inl (cA, 160, .inl (fun _ => 0))), (q_10, .inr (9, [.ref q_11, .int 0, .int 0])), (q_11, .inl (cA, 160, .inl (fun _ => 0))), (q_8, .inr (9, [.ref q_9, .int 0, .int 0])), (q_9, .inl (cA, 160, .inl (fun _ => 0))), (q_6, .inr (9, [.ref q_7, .int 0, .int 0])), (q_7, .inl (cA, 160, .inl (fun _ => 0))), (q_4, .inr (9, [.ref q_5, .int 0, .int 0])), (q_5, .inl (cA, 160, .inl (fun _ => 0))), (q_2, .inr (9, [.ref q_3, .int 0, .int 0])), (q_3, .inl (cA, 160, .inl (fun _ => 0))), (q, .inr (9, [.ref q_1, .int 0, .int 0])), (q_1, .inl (cA, 160, .inl (fun _ => 0)))] := by rw [eZ_24, eZ_23]; rfl
  clear eZ_23
  refine lv_aload_n hx hb px_d62_262 rfl (lv_at hl 0 rfl) ?_
  refine lv_bipush (v := 13) hx hb px_d62_263 (by decide) ?_
  refine va_newa (atype := .int) (ty := .int) (n := 13) (N' := 13) (a0 := (13, .inl (fun _ => 0))) hx hb (htw _ px_w2) rfl hK hP hD hS hA (fun _ => rfl) (by decide +kernel) (by decide +kernel) (by decide +kernel) (Nat.le_of_ble_eq_true rfl) (Nat.le_of_ble_eq_true rfl) px_d62_265 (fun q_36 cA_28 H hK hP hD hS => ?_)
  replace hP := hP.swap
  replace hD := hD.swap
  replace hP : va_P (dC, dI) vwCl (([(h0, .inr (8, fs28)), (q_16, .inl (cA_8, 156, .inr (.inr (.inr (.inr (fun _ => none)))))), (q_21, .inl (cA_13, 36, .inr (.inr (.inr (.inr (fun _ => none)))))), (q_32, .inl (cA_24, 4096, .inl (fun _ => 0))), (q_33, .inl (cA_25, 4096, .inl (fun _ => 0))), (q_36, .inl (cA_28, 13, .inl (fun _ => 0)))] : va_W) ++ Z_24) H := hP
  replace hD : va_D A (([(h0, .inr (8, fs28)), (q_16, .inl (cA_8, 156, .inr (.inr (.inr (.inr (fun _ => none)))))), (q_21, .inl (cA_13, 36, .inr (.inr (.inr (.inr (fun _ => none)))))), (q_32, .inl (cA_24, 4096, .inl (fun _ => 0))), (q_33, .inl (cA_25, 4096, .inl (fun _ => 0))), (q_36, .inl (cA_28, 13, .inl (fun _ => 0)))] : va_W) ++ Z_24) := hD
  replace hK : va_K (dC, dI) vwCl [(cA, .int), (cA, .int), (cA, .int), (cA, .int), (cA, .int), (cA, .int), (cA, .int), (cA, .int), (cA_8, .object "MatroidDeskModel$Num"), (cA_9, .int), (cA_10, .int), (cA_11, .int), (cA_12, .int), (cA_13, .object "MatroidDeskModel$Num"), (cA_14, .int), (cA_15, .boolean), (cA_16, .int), (cA_17, .int), (cA_18, .int), (cA_19, .int), (cA_20, .int), (cA_21, .int), (cA_22, .byte), (cA_23, .byte), (cA_24, .int), (cA_25, .int), (cA_26, .long), (cA_27, .long), (cA_28, .int)] s := hK
  refine W.widen (k := 37) (n := 317276) (Nat.le_of_ble_eq_true rfl) (Nat.le_of_ble_eq_true rfl) ?_
  refine va_putF (D := (dC, dI)) (ci := 8) (v := .ref q_36) (ty := (.array .int)) (C := "MatroidDeskModel") (T := px_T8) (N := 53) hx hb htw px_in8 px_ty8 px_tyok8 px_nm8 hown hK hP hD hS 0 rfl rfl 31 (by decide) (htw _ px_w516) (fun _ h9 => h9) rfl hin rfl (by decide +kernel) rfl rfl (by rw [hlen]; decide) px_d62_267 (fun H locs hP hD hS => ?_)
  replace hP : va_P (dC, dI) vwCl (([(h0, .inr (8, (fs28.set 31 (.ref q_36)))), (q_16, .inl (cA_8, 156, .inr (.inr (.inr (.inr (fun _ => none)))))), (q_21, .inl (cA_13, 36, .inr (.inr (.inr (.inr (fun _ => none)))))), (q_32, .inl (cA_24, 4096, .inl (fun _ => 0))), (q_33, .inl (cA_25, 4096, .inl (fun _ => 0))), (q_36, .inl (cA_28, 13, .inl (fun _ => 0)))] : va_W) ++ Z_24) H := hP
  replace hD : va_D A (([(h0, .inr (8, (fs28.set 31 (.ref q_36)))), (q_16, .inl (cA_8, 156, .inr (.inr (.inr (.inr (fun _ => none)))))), (q_21, .inl (cA_13, 36, .inr (.inr (.inr (.inr (fun _ => none)))))), (q_32, .inl (cA_24, 4096, .inl (fun _ => 0))), (q_33, .inl (cA_25, 4096, .inl (fun _ => 0))), (q_36, .inl (cA_28, 13, .inl (fun _ => 0)))] : va_W) ++ Z_24) := hD
  obtain ⟨fs29, efs_29⟩ : ∃ z : List Value, z = (fs28.set 31 (.ref q_36)) := ⟨_, rfl⟩
  rw [← efs_29] at hP hD
  replace hk_8 : fs29[8]? = some (.ref q_16) := by rw [efs_29]; exact (px_sn (by decide)).trans hk_8
  replace hk_16 : fs29[16]? = some (.ref q_21) := by rw [efs_29]; exact (px_sn (by decide)).trans hk_16
  replace hk_27 : fs29[27]? = some (.ref q_32) := by rw [efs_29]; exact (px_sn (by decide)).trans hk_27
  replace hk_28 : fs29[28]? = some (.ref q_33) := by rw [efs_29]; exact (px_sn (by decide)).trans hk_28
  replace hlen : fs29.length = 53 := by rw [efs_29]; exact px_sl hlen
  replace efs_29 : fs29 = [.ref q, .ref q_2, .ref q_4, .ref q_6, .ref q_8, .ref q_10, .ref q_12, .ref q_14, .ref q_16, .ref q_17, .int 0, .int 0, .int 0, .ref q_18, .ref q_19, .ref q_20, .ref q_21, .ref q_22, .ref q_23, .ref q_24, .ref q_25, .ref q_26, .ref q_27, .ref q_28, .ref q_29, .ref q_30, .ref q_31, .ref q_32, .ref q_33, .ref q_34, .ref q_35, .ref q_36, .int 0, .int 0, .null, .null, .null, .int 0, .int 0, .int 0, .int 0, .int 0, .int 0, .int 0, .null, .null, .null, .int 0, .null, .int 0, .null, .int 0, .int 0] := by rw [efs_29, efs_28]; rfl
  clear efs_28
  obtain ⟨Z_25, eZ_25⟩ : ∃ z : va_W, z = ([(q_36, .inl (cA_28, 13, .inl (fun _ => 0)))] : va_W) ++ Z_24 := ⟨_, rfl⟩
  replace hP : va_P (dC, dI) vwCl (([(h0, .inr (8, fs29)), (q_16, .inl (cA_8, 156, .inr (.inr (.inr (.inr (fun _ => none)))))), (q_21, .inl (cA_13, 36, .inr (.inr (.inr (.inr (fun _ => none)))))), (q_32, .inl (cA_24, 4096, .inl (fun _ => 0))), (q_33, .inl (cA_25, 4096, .inl (fun _ => 0)))] : va_W) ++ Z_25) H := by rw [eZ_25]; exact hP
  replace hD : va_D A (([(h0, .inr (8, fs29)), (q_16, .inl (cA_8, 156, .inr (.inr (.inr (.inr (fun _ => none)))))), (q_21, .inl (cA_13, 36, .inr (.inr (.inr (.inr (fun _ => none)))))), (q_32, .inl (cA_24, 4096, .inl (fun _ => 0))), (q_33, .inl (cA_25, 4096, .inl (fun _ => 0)))] : va_W) ++ Z_25) := by rw [eZ_25]; exact hD
  replace eZ_25 : Z_25 = [(q_36, .inl (cA_28, 13, .inl (fun _ => 0))), (q_35, .inl (cA_27, 169, .inr (.inl (fun _ => 0)))), (q_34, .inl (cA_26, 169, .inr (.inl (fun _ => 0)))), (q_31, .inl (cA_23, 106496, .inl (fun _ => 0))), (q_30, .inl (cA_22, 106496, .inl (fun _ => 0))), (q_29, .inl (cA_21, 312, .inl (fun _ => 0))), (q_28, .inl (cA_20, 3744, .inl (fun _ => 0))), (q_27, .inl (cA_19, 89856, .inl (fun _ => 0))), (q_26, .inl (cA_18, 26, .inl (fun _ => 0))), (q_25, .inl (cA_17, 26, .inl (fun _ => 0))), (q_24, .inl (cA_16, 26, .inl (fun _ => 0))), (q_23, .inl (cA_15, 26, .inl (fun _ => 0))), (q_22, .inl (cA_14, 36, .inl (fun _ => 0))), (q_20, .inl (cA_12, 12, .inl (fun _ => 0))), (q_19, .inl (cA_11, 12, .inl (fun _ => 0))), (q_18, .inl (cA_10, 13, .inl (fun _ => 0))), (q_17, .inl (cA_9, 156, .inl (fun _ => 0))), (q_14, .inr (9, [.ref q_15, .int 0, .int 0])), (q_15, .inl (cA, 160, .inl (fun _ => 0))), (q_12, .inr (9, [.ref q_13, .int 0, .int 0])), (q_13, .inl (cA, 160, .inl (fun _ => 0))), (q_10, .inr (9, [.ref q_11, .int 0, .int 0])), (q_11, .inl (cA, 160, .inl (fun _ => 0))), (q_8, .inr (9, [.ref q_9, .int 0, .int 0])), (q_9, .inl (cA, 160, .inl (fun _ => 0))), (q_6, .inr (9, [.ref q_7, .int 0, .int 0])), (q_7, .inl (cA, 160, .inl (fun _ => 0))), (q_4, .inr (9, [.ref q_5, .int 0, .int 0])), (q_5, .inl (cA, 160, .inl (fun _ => 0))), (q_2, .inr (9, [.ref q_3, .int 0, .int 0])), (q_3, .inl (cA, 160, .inl (fun _ => 0))), (q, .inr (9, [.ref q_1, .int 0, .int 0])), (q_1, .inl (cA, 160, .inl (fun _ => 0)))] := by rw [eZ_25, eZ_24]; rfl
  clear eZ_24
  refine lv_aload_n hx hb px_d62_270 rfl (lv_at hl 0 rfl) ?_
  refine lv_bipush (v := 12) hx hb px_d62_271 (by decide) ?_
  refine va_newa (atype := .int) (ty := .int) (n := 12) (N' := 12) (a0 := (12, .inl (fun _ => 0))) hx hb (htw _ px_w2) rfl hK hP hD hS hA (fun _ => rfl) (by decide +kernel) (by decide +kernel) (by decide +kernel) (Nat.le_of_ble_eq_true rfl) (Nat.le_of_ble_eq_true rfl) px_d62_273 (fun q_37 cA_29 H hK hP hD hS => ?_)
  replace hP := hP.swap
  replace hD := hD.swap
  replace hP : va_P (dC, dI) vwCl (([(h0, .inr (8, fs29)), (q_16, .inl (cA_8, 156, .inr (.inr (.inr (.inr (fun _ => none)))))), (q_21, .inl (cA_13, 36, .inr (.inr (.inr (.inr (fun _ => none)))))), (q_32, .inl (cA_24, 4096, .inl (fun _ => 0))), (q_33, .inl (cA_25, 4096, .inl (fun _ => 0))), (q_37, .inl (cA_29, 12, .inl (fun _ => 0)))] : va_W) ++ Z_25) H := hP
  replace hD : va_D A (([(h0, .inr (8, fs29)), (q_16, .inl (cA_8, 156, .inr (.inr (.inr (.inr (fun _ => none)))))), (q_21, .inl (cA_13, 36, .inr (.inr (.inr (.inr (fun _ => none)))))), (q_32, .inl (cA_24, 4096, .inl (fun _ => 0))), (q_33, .inl (cA_25, 4096, .inl (fun _ => 0))), (q_37, .inl (cA_29, 12, .inl (fun _ => 0)))] : va_W) ++ Z_25) := hD
  replace hK : va_K (dC, dI) vwCl [(cA, .int), (cA, .int), (cA, .int), (cA, .int), (cA, .int), (cA, .int), (cA, .int), (cA, .int), (cA_8, .object "MatroidDeskModel$Num"), (cA_9, .int), (cA_10, .int), (cA_11, .int), (cA_12, .int), (cA_13, .object "MatroidDeskModel$Num"), (cA_14, .int), (cA_15, .boolean), (cA_16, .int), (cA_17, .int), (cA_18, .int), (cA_19, .int), (cA_20, .int), (cA_21, .int), (cA_22, .byte), (cA_23, .byte), (cA_24, .int), (cA_25, .int), (cA_26, .long), (cA_27, .long), (cA_28, .int), (cA_29, .int)] s := hK
  refine W.widen (k := 38) (n := 317288) (Nat.le_of_ble_eq_true rfl) (Nat.le_of_ble_eq_true rfl) ?_
  refine va_putF (D := (dC, dI)) (ci := 8) (v := .ref q_37) (ty := (.array .int)) (C := "MatroidDeskModel") (T := px_T8) (N := 53) hx hb htw px_in8 px_ty8 px_tyok8 px_nm8 hown hK hP hD hS 0 rfl rfl 34 (by decide) (htw _ px_w517) (fun _ h9 => h9) rfl hin rfl (by decide +kernel) rfl rfl (by rw [hlen]; decide) px_d62_275 (fun H locs hP hD hS => ?_)
  replace hP : va_P (dC, dI) vwCl (([(h0, .inr (8, (fs29.set 34 (.ref q_37)))), (q_16, .inl (cA_8, 156, .inr (.inr (.inr (.inr (fun _ => none)))))), (q_21, .inl (cA_13, 36, .inr (.inr (.inr (.inr (fun _ => none)))))), (q_32, .inl (cA_24, 4096, .inl (fun _ => 0))), (q_33, .inl (cA_25, 4096, .inl (fun _ => 0))), (q_37, .inl (cA_29, 12, .inl (fun _ => 0)))] : va_W) ++ Z_25) H := hP
  replace hD : va_D A (([(h0, .inr (8, (fs29.set 34 (.ref q_37)))), (q_16, .inl (cA_8, 156, .inr (.inr (.inr (.inr (fun _ => none)))))), (q_21, .inl (cA_13, 36, .inr (.inr (.inr (.inr (fun _ => none)))))), (q_32, .inl (cA_24, 4096, .inl (fun _ => 0))), (q_33, .inl (cA_25, 4096, .inl (fun _ => 0))), (q_37, .inl (cA_29, 12, .inl (fun _ => 0)))] : va_W) ++ Z_25) := hD
  obtain ⟨fs30, efs_30⟩ : ∃ z : List Value, z = (fs29.set 34 (.ref q_37)) := ⟨_, rfl⟩
  rw [← efs_30] at hP hD
  replace hk_8 : fs30[8]? = some (.ref q_16) := by rw [efs_30]; exact (px_sn (by decide)).trans hk_8
  replace hk_16 : fs30[16]? = some (.ref q_21) := by rw [efs_30]; exact (px_sn (by decide)).trans hk_16
  replace hk_27 : fs30[27]? = some (.ref q_32) := by rw [efs_30]; exact (px_sn (by decide)).trans hk_27
  replace hk_28 : fs30[28]? = some (.ref q_33) := by rw [efs_30]; exact (px_sn (by decide)).trans hk_28
  replace hlen : fs30.length = 53 := by rw [efs_30]; exact px_sl hlen
  replace efs_30 : fs30 = [.ref q, .ref q_2, .ref q_4, .ref q_6, .ref q_8, .ref q_10, .ref q_12, .ref q_14, .ref q_16, .ref q_17, .int 0, .int 0, .int 0, .ref q_18, .ref q_19, .ref q_20, .ref q_21, .ref q_22, .ref q_23, .ref q_24, .ref q_25, .ref q_26, .ref q_27, .ref q_28, .ref q_29, .ref q_30, .ref q_31, .ref q_32, .ref q_33, .ref q_34, .ref q_35, .ref q_36, .int 0, .int 0, .ref q_37, .null, .null, .int 0, .int 0, .int 0, .int 0, .int 0, .int 0, .int 0, .null, .null, .null, .int 0, .null, .int 0, .null, .int 0, .int 0] := by rw [efs_30, efs_29]; rfl
  clear efs_29
  obtain ⟨Z_26, eZ_26⟩ : ∃ z : va_W, z = ([(q_37, .inl (cA_29, 12, .inl (fun _ => 0)))] : va_W) ++ Z_25 := ⟨_, rfl⟩
  replace hP : va_P (dC, dI) vwCl (([(h0, .inr (8, fs30)), (q_16, .inl (cA_8, 156, .inr (.inr (.inr (.inr (fun _ => none)))))), (q_21, .inl (cA_13, 36, .inr (.inr (.inr (.inr (fun _ => none)))))), (q_32, .inl (cA_24, 4096, .inl (fun _ => 0))), (q_33, .inl (cA_25, 4096, .inl (fun _ => 0)))] : va_W) ++ Z_26) H := by rw [eZ_26]; exact hP
  replace hD : va_D A (([(h0, .inr (8, fs30)), (q_16, .inl (cA_8, 156, .inr (.inr (.inr (.inr (fun _ => none)))))), (q_21, .inl (cA_13, 36, .inr (.inr (.inr (.inr (fun _ => none)))))), (q_32, .inl (cA_24, 4096, .inl (fun _ => 0))), (q_33, .inl (cA_25, 4096, .inl (fun _ => 0)))] : va_W) ++ Z_26) := by rw [eZ_26]; exact hD
  replace eZ_26 : Z_26 = [(q_37, .inl (cA_29, 12, .inl (fun _ => 0))), (q_36, .inl (cA_28, 13, .inl (fun _ => 0))), (q_35, .inl (cA_27, 169, .inr (.inl (fun _ => 0)))), (q_34, .inl (cA_26, 169, .inr (.inl (fun _ => 0)))), (q_31, .inl (cA_23, 106496, .inl (fun _ => 0))), (q_30, .inl (cA_22, 106496, .inl (fun _ => 0))), (q_29, .inl (cA_21, 312, .inl (fun _ => 0))), (q_28, .inl (cA_20, 3744, .inl (fun _ => 0))), (q_27, .inl (cA_19, 89856, .inl (fun _ => 0))), (q_26, .inl (cA_18, 26, .inl (fun _ => 0))), (q_25, .inl (cA_17, 26, .inl (fun _ => 0))), (q_24, .inl (cA_16, 26, .inl (fun _ => 0))), (q_23, .inl (cA_15, 26, .inl (fun _ => 0))), (q_22, .inl (cA_14, 36, .inl (fun _ => 0))), (q_20, .inl (cA_12, 12, .inl (fun _ => 0))), (q_19, .inl (cA_11, 12, .inl (fun _ => 0))), (q_18, .inl (cA_10, 13, .inl (fun _ => 0))), (q_17, .inl (cA_9, 156, .inl (fun _ => 0))), (q_14, .inr (9, [.ref q_15, .int 0, .int 0])), (q_15, .inl (cA, 160, .inl (fun _ => 0))), (q_12, .inr (9, [.ref q_13, .int 0, .int 0])), (q_13, .inl (cA, 160, .inl (fun _ => 0))), (q_10, .inr (9, [.ref q_11, .int 0, .int 0])), (q_11, .inl (cA, 160, .inl (fun _ => 0))), (q_8, .inr (9, [.ref q_9, .int 0, .int 0])), (q_9, .inl (cA, 160, .inl (fun _ => 0))), (q_6, .inr (9, [.ref q_7, .int 0, .int 0])), (q_7, .inl (cA, 160, .inl (fun _ => 0))), (q_4, .inr (9, [.ref q_5, .int 0, .int 0])), (q_5, .inl (cA, 160, .inl (fun _ => 0))), (q_2, .inr (9, [.ref q_3, .int 0, .int 0])), (q_3, .inl (cA, 160, .inl (fun _ => 0))), (q, .inr (9, [.ref q_1, .int 0, .int 0])), (q_1, .inl (cA, 160, .inl (fun _ => 0)))] := by rw [eZ_26, eZ_25]; rfl
  clear eZ_25
  refine lv_aload_n hx hb px_d62_278 rfl (lv_at hl 0 rfl) ?_
  refine lv_sipush (v := 169) hx hb px_d62_279 (by decide) ?_
  refine va_newa (atype := .int) (ty := .int) (n := 169) (N' := 169) (a0 := (169, .inl (fun _ => 0))) hx hb (htw _ px_w2) rfl hK hP hD hS hA (fun _ => rfl) (by decide +kernel) (by decide +kernel) (by decide +kernel) (Nat.le_of_ble_eq_true rfl) (Nat.le_of_ble_eq_true rfl) px_d62_282 (fun q_38 cA_30 H hK hP hD hS => ?_)
  replace hP := hP.swap
  replace hD := hD.swap
  replace hP : va_P (dC, dI) vwCl (([(h0, .inr (8, fs30)), (q_16, .inl (cA_8, 156, .inr (.inr (.inr (.inr (fun _ => none)))))), (q_21, .inl (cA_13, 36, .inr (.inr (.inr (.inr (fun _ => none)))))), (q_32, .inl (cA_24, 4096, .inl (fun _ => 0))), (q_33, .inl (cA_25, 4096, .inl (fun _ => 0))), (q_38, .inl (cA_30, 169, .inl (fun _ => 0)))] : va_W) ++ Z_26) H := hP
  replace hD : va_D A (([(h0, .inr (8, fs30)), (q_16, .inl (cA_8, 156, .inr (.inr (.inr (.inr (fun _ => none)))))), (q_21, .inl (cA_13, 36, .inr (.inr (.inr (.inr (fun _ => none)))))), (q_32, .inl (cA_24, 4096, .inl (fun _ => 0))), (q_33, .inl (cA_25, 4096, .inl (fun _ => 0))), (q_38, .inl (cA_30, 169, .inl (fun _ => 0)))] : va_W) ++ Z_26) := hD
  replace hK : va_K (dC, dI) vwCl [(cA, .int), (cA, .int), (cA, .int), (cA, .int), (cA, .int), (cA, .int), (cA, .int), (cA, .int), (cA_8, .object "MatroidDeskModel$Num"), (cA_9, .int), (cA_10, .int), (cA_11, .int), (cA_12, .int), (cA_13, .object "MatroidDeskModel$Num"), (cA_14, .int), (cA_15, .boolean), (cA_16, .int), (cA_17, .int), (cA_18, .int), (cA_19, .int), (cA_20, .int), (cA_21, .int), (cA_22, .byte), (cA_23, .byte), (cA_24, .int), (cA_25, .int), (cA_26, .long), (cA_27, .long), (cA_28, .int), (cA_29, .int), (cA_30, .int)] s := hK
  refine W.widen (k := 39) (n := 317457) (Nat.le_of_ble_eq_true rfl) (Nat.le_of_ble_eq_true rfl) ?_
  refine va_putF (D := (dC, dI)) (ci := 8) (v := .ref q_38) (ty := (.array .int)) (C := "MatroidDeskModel") (T := px_T8) (N := 53) hx hb htw px_in8 px_ty8 px_tyok8 px_nm8 hown hK hP hD hS 0 rfl rfl 35 (by decide) (htw _ px_w518) (fun _ h9 => h9) rfl hin rfl (by decide +kernel) rfl rfl (by rw [hlen]; decide) px_d62_284 (fun H locs hP hD hS => ?_)
  replace hP : va_P (dC, dI) vwCl (([(h0, .inr (8, (fs30.set 35 (.ref q_38)))), (q_16, .inl (cA_8, 156, .inr (.inr (.inr (.inr (fun _ => none)))))), (q_21, .inl (cA_13, 36, .inr (.inr (.inr (.inr (fun _ => none)))))), (q_32, .inl (cA_24, 4096, .inl (fun _ => 0))), (q_33, .inl (cA_25, 4096, .inl (fun _ => 0))), (q_38, .inl (cA_30, 169, .inl (fun _ => 0)))] : va_W) ++ Z_26) H := hP
  replace hD : va_D A (([(h0, .inr (8, (fs30.set 35 (.ref q_38)))), (q_16, .inl (cA_8, 156, .inr (.inr (.inr (.inr (fun _ => none)))))), (q_21, .inl (cA_13, 36, .inr (.inr (.inr (.inr (fun _ => none)))))), (q_32, .inl (cA_24, 4096, .inl (fun _ => 0))), (q_33, .inl (cA_25, 4096, .inl (fun _ => 0))), (q_38, .inl (cA_30, 169, .inl (fun _ => 0)))] : va_W) ++ Z_26) := hD
  obtain ⟨fs31, efs_31⟩ : ∃ z : List Value, z = (fs30.set 35 (.ref q_38)) := ⟨_, rfl⟩
  rw [← efs_31] at hP hD
  replace hk_8 : fs31[8]? = some (.ref q_16) := by rw [efs_31]; exact (px_sn (by decide)).trans hk_8
  replace hk_16 : fs31[16]? = some (.ref q_21) := by rw [efs_31]; exact (px_sn (by decide)).trans hk_16
  replace hk_27 : fs31[27]? = some (.ref q_32) := by rw [efs_31]; exact (px_sn (by decide)).trans hk_27
  replace hk_28 : fs31[28]? = some (.ref q_33) := by rw [efs_31]; exact (px_sn (by decide)).trans hk_28
  replace hlen : fs31.length = 53 := by rw [efs_31]; exact px_sl hlen
  replace efs_31 : fs31 = [.ref q, .ref q_2, .ref q_4, .ref q_6, .ref q_8, .ref q_10, .ref q_12, .ref q_14, .ref q_16, .ref q_17, .int 0, .int 0, .int 0, .ref q_18, .ref q_19, .ref q_20, .ref q_21, .ref q_22, .ref q_23, .ref q_24, .ref q_25, .ref q_26, .ref q_27, .ref q_28, .ref q_29, .ref q_30, .ref q_31, .ref q_32, .ref q_33, .ref q_34, .ref q_35, .ref q_36, .int 0, .int 0, .ref q_37, .ref q_38, .null, .int 0, .int 0, .int 0, .int 0, .int 0, .int 0, .int 0, .null, .null, .null, .int 0, .null, .int 0, .null, .int 0, .int 0] := by rw [efs_31, efs_30]; rfl
  clear efs_30
  obtain ⟨Z_27, eZ_27⟩ : ∃ z : va_W, z = ([(q_38, .inl (cA_30, 169, .inl (fun _ => 0)))] : va_W) ++ Z_26 := ⟨_, rfl⟩
  replace hP : va_P (dC, dI) vwCl (([(h0, .inr (8, fs31)), (q_16, .inl (cA_8, 156, .inr (.inr (.inr (.inr (fun _ => none)))))), (q_21, .inl (cA_13, 36, .inr (.inr (.inr (.inr (fun _ => none)))))), (q_32, .inl (cA_24, 4096, .inl (fun _ => 0))), (q_33, .inl (cA_25, 4096, .inl (fun _ => 0)))] : va_W) ++ Z_27) H := by rw [eZ_27]; exact hP
  replace hD : va_D A (([(h0, .inr (8, fs31)), (q_16, .inl (cA_8, 156, .inr (.inr (.inr (.inr (fun _ => none)))))), (q_21, .inl (cA_13, 36, .inr (.inr (.inr (.inr (fun _ => none)))))), (q_32, .inl (cA_24, 4096, .inl (fun _ => 0))), (q_33, .inl (cA_25, 4096, .inl (fun _ => 0)))] : va_W) ++ Z_27) := by rw [eZ_27]; exact hD
  replace eZ_27 : Z_27 = [(q_38, .inl (cA_30, 169, .inl (fun _ => 0))), (q_37, .inl (cA_29, 12, .inl (fun _ => 0))), (q_36, .inl (cA_28, 13, .inl (fun _ => 0))), (q_35, .inl (cA_27, 169, .inr (.inl (fun _ => 0)))), (q_34, .inl (cA_26, 169, .inr (.inl (fun _ => 0)))), (q_31, .inl (cA_23, 106496, .inl (fun _ => 0))), (q_30, .inl (cA_22, 106496, .inl (fun _ => 0))), (q_29, .inl (cA_21, 312, .inl (fun _ => 0))), (q_28, .inl (cA_20, 3744, .inl (fun _ => 0))), (q_27, .inl (cA_19, 89856, .inl (fun _ => 0))), (q_26, .inl (cA_18, 26, .inl (fun _ => 0))), (q_25, .inl (cA_17, 26, .inl (fun _ => 0))), (q_24, .inl (cA_16, 26, .inl (fun _ => 0))), (q_23, .inl (cA_15, 26, .inl (fun _ => 0))), (q_22, .inl (cA_14, 36, .inl (fun _ => 0))), (q_20, .inl (cA_12, 12, .inl (fun _ => 0))), (q_19, .inl (cA_11, 12, .inl (fun _ => 0))), (q_18, .inl (cA_10, 13, .inl (fun _ => 0))), (q_17, .inl (cA_9, 156, .inl (fun _ => 0))), (q_14, .inr (9, [.ref q_15, .int 0, .int 0])), (q_15, .inl (cA, 160, .inl (fun _ => 0))), (q_12, .inr (9, [.ref q_13, .int 0, .int 0])), (q_13, .inl (cA, 160, .inl (fun _ => 0))), (q_10, .inr (9, [.ref q_11, .int 0, .int 0])), (q_11, .inl (cA, 160, .inl (fun _ => 0))), (q_8, .inr (9, [.ref q_9, .int 0, .int 0])), (q_9, .inl (cA, 160, .inl (fun _ => 0))), (q_6, .inr (9, [.ref q_7, .int 0, .int 0])), (q_7, .inl (cA, 160, .inl (fun _ => 0))), (q_4, .inr (9, [.ref q_5, .int 0, .int 0])), (q_5, .inl (cA, 160, .inl (fun _ => 0))), (q_2, .inr (9, [.ref q_3, .int 0, .int 0])), (q_3, .inl (cA, 160, .inl (fun _ => 0))), (q, .inr (9, [.ref q_1, .int 0, .int 0])), (q_1, .inl (cA, 160, .inl (fun _ => 0)))] := by rw [eZ_27, eZ_26]; rfl
  clear eZ_26
  refine lv_aload_n hx hb px_d62_287 rfl (lv_at hl 0 rfl) ?_
  refine lv_sipush (v := 16384) hx hb px_d62_288 (by decide) ?_
  refine va_newa (atype := .byte) (ty := .byte) (n := 16384) (N' := 16384) (a0 := (16384, .inl (fun _ => 0))) hx hb (htw _ px_w3) rfl hK hP hD hS hA (fun _ => rfl) (by decide +kernel) (by decide +kernel) (by decide +kernel) (Nat.le_of_ble_eq_true rfl) (Nat.le_of_ble_eq_true rfl) px_d62_291 (fun q_39 cA_31 H hK hP hD hS => ?_)
  replace hP := hP.swap
  replace hD := hD.swap
  replace hP : va_P (dC, dI) vwCl (([(h0, .inr (8, fs31)), (q_16, .inl (cA_8, 156, .inr (.inr (.inr (.inr (fun _ => none)))))), (q_21, .inl (cA_13, 36, .inr (.inr (.inr (.inr (fun _ => none)))))), (q_32, .inl (cA_24, 4096, .inl (fun _ => 0))), (q_33, .inl (cA_25, 4096, .inl (fun _ => 0))), (q_39, .inl (cA_31, 16384, .inl (fun _ => 0)))] : va_W) ++ Z_27) H := hP
  replace hD : va_D A (([(h0, .inr (8, fs31)), (q_16, .inl (cA_8, 156, .inr (.inr (.inr (.inr (fun _ => none)))))), (q_21, .inl (cA_13, 36, .inr (.inr (.inr (.inr (fun _ => none)))))), (q_32, .inl (cA_24, 4096, .inl (fun _ => 0))), (q_33, .inl (cA_25, 4096, .inl (fun _ => 0))), (q_39, .inl (cA_31, 16384, .inl (fun _ => 0)))] : va_W) ++ Z_27) := hD
  replace hK : va_K (dC, dI) vwCl [(cA, .int), (cA, .int), (cA, .int), (cA, .int), (cA, .int), (cA, .int), (cA, .int), (cA, .int), (cA_8, .object "MatroidDeskModel$Num"), (cA_9, .int), (cA_10, .int), (cA_11, .int), (cA_12, .int), (cA_13, .object "MatroidDeskModel$Num"), (cA_14, .int), (cA_15, .boolean), (cA_16, .int), (cA_17, .int), (cA_18, .int), (cA_19, .int), (cA_20, .int), (cA_21, .int), (cA_22, .byte), (cA_23, .byte), (cA_24, .int), (cA_25, .int), (cA_26, .long), (cA_27, .long), (cA_28, .int), (cA_29, .int), (cA_30, .int), (cA_31, .byte)] s := hK
  refine W.widen (k := 40) (n := 333841) (Nat.le_of_ble_eq_true rfl) (Nat.le_of_ble_eq_true rfl) ?_
  refine va_putF (D := (dC, dI)) (ci := 8) (v := .ref q_39) (ty := (.array .byte)) (C := "MatroidDeskModel") (T := px_T8) (N := 53) hx hb htw px_in8 px_ty8 px_tyok8 px_nm8 hown hK hP hD hS 0 rfl rfl 36 (by decide) (htw _ px_w320) (fun _ h9 => h9) rfl hin rfl (by decide +kernel) rfl rfl (by rw [hlen]; decide) px_d62_293 (fun H locs hP hD hS => ?_)
  replace hP : va_P (dC, dI) vwCl (([(h0, .inr (8, (fs31.set 36 (.ref q_39)))), (q_16, .inl (cA_8, 156, .inr (.inr (.inr (.inr (fun _ => none)))))), (q_21, .inl (cA_13, 36, .inr (.inr (.inr (.inr (fun _ => none)))))), (q_32, .inl (cA_24, 4096, .inl (fun _ => 0))), (q_33, .inl (cA_25, 4096, .inl (fun _ => 0))), (q_39, .inl (cA_31, 16384, .inl (fun _ => 0)))] : va_W) ++ Z_27) H := hP
  replace hD : va_D A (([(h0, .inr (8, (fs31.set 36 (.ref q_39)))), (q_16, .inl (cA_8, 156, .inr (.inr (.inr (.inr (fun _ => none)))))), (q_21, .inl (cA_13, 36, .inr (.inr (.inr (.inr (fun _ => none)))))), (q_32, .inl (cA_24, 4096, .inl (fun _ => 0))), (q_33, .inl (cA_25, 4096, .inl (fun _ => 0))), (q_39, .inl (cA_31, 16384, .inl (fun _ => 0)))] : va_W) ++ Z_27) := hD
  obtain ⟨fs32, efs_32⟩ : ∃ z : List Value, z = (fs31.set 36 (.ref q_39)) := ⟨_, rfl⟩
  rw [← efs_32] at hP hD
  replace hk_8 : fs32[8]? = some (.ref q_16) := by rw [efs_32]; exact (px_sn (by decide)).trans hk_8
  replace hk_16 : fs32[16]? = some (.ref q_21) := by rw [efs_32]; exact (px_sn (by decide)).trans hk_16
  replace hk_27 : fs32[27]? = some (.ref q_32) := by rw [efs_32]; exact (px_sn (by decide)).trans hk_27
  replace hk_28 : fs32[28]? = some (.ref q_33) := by rw [efs_32]; exact (px_sn (by decide)).trans hk_28
  replace hlen : fs32.length = 53 := by rw [efs_32]; exact px_sl hlen
  replace efs_32 : fs32 = [.ref q, .ref q_2, .ref q_4, .ref q_6, .ref q_8, .ref q_10, .ref q_12, .ref q_14, .ref q_16, .ref q_17, .int 0, .int 0, .int 0, .ref q_18, .ref q_19, .ref q_20, .ref q_21, .ref q_22, .ref q_23, .ref q_24, .ref q_25, .ref q_26, .ref q_27, .ref q_28, .ref q_29, .ref q_30, .ref q_31, .ref q_32, .ref q_33, .ref q_34, .ref q_35, .ref q_36, .int 0, .int 0, .ref q_37, .ref q_38, .ref q_39, .int 0, .int 0, .int 0, .int 0, .int 0, .int 0, .int 0, .null, .null, .null, .int 0, .null, .int 0, .null, .int 0, .int 0] := by rw [efs_32, efs_31]; rfl
  clear efs_31
  obtain ⟨Z_28, eZ_28⟩ : ∃ z : va_W, z = ([(q_39, .inl (cA_31, 16384, .inl (fun _ => 0)))] : va_W) ++ Z_27 := ⟨_, rfl⟩
  replace hP : va_P (dC, dI) vwCl (([(h0, .inr (8, fs32)), (q_16, .inl (cA_8, 156, .inr (.inr (.inr (.inr (fun _ => none)))))), (q_21, .inl (cA_13, 36, .inr (.inr (.inr (.inr (fun _ => none)))))), (q_32, .inl (cA_24, 4096, .inl (fun _ => 0))), (q_33, .inl (cA_25, 4096, .inl (fun _ => 0)))] : va_W) ++ Z_28) H := by rw [eZ_28]; exact hP
  replace hD : va_D A (([(h0, .inr (8, fs32)), (q_16, .inl (cA_8, 156, .inr (.inr (.inr (.inr (fun _ => none)))))), (q_21, .inl (cA_13, 36, .inr (.inr (.inr (.inr (fun _ => none)))))), (q_32, .inl (cA_24, 4096, .inl (fun _ => 0))), (q_33, .inl (cA_25, 4096, .inl (fun _ => 0)))] : va_W) ++ Z_28) := by rw [eZ_28]; exact hD
  replace eZ_28 : Z_28 = [(q_39, .inl (cA_31, 16384, .inl (fun _ => 0))), (q_38, .inl (cA_30, 169, .inl (fun _ => 0))), (q_37, .inl (cA_29, 12, .inl (fun _ => 0))), (q_36, .inl (cA_28, 13, .inl (fun _ => 0))), (q_35, .inl (cA_27, 169, .inr (.inl (fun _ => 0)))), (q_34, .inl (cA_26, 169, .inr (.inl (fun _ => 0)))), (q_31, .inl (cA_23, 106496, .inl (fun _ => 0))), (q_30, .inl (cA_22, 106496, .inl (fun _ => 0))), (q_29, .inl (cA_21, 312, .inl (fun _ => 0))), (q_28, .inl (cA_20, 3744, .inl (fun _ => 0))), (q_27, .inl (cA_19, 89856, .inl (fun _ => 0))), (q_26, .inl (cA_18, 26, .inl (fun _ => 0))), (q_25, .inl (cA_17, 26, .inl (fun _ => 0))), (q_24, .inl (cA_16, 26, .inl (fun _ => 0))), (q_23, .inl (cA_15, 26, .inl (fun _ => 0))), (q_22, .inl (cA_14, 36, .inl (fun _ => 0))), (q_20, .inl (cA_12, 12, .inl (fun _ => 0))), (q_19, .inl (cA_11, 12, .inl (fun _ => 0))), (q_18, .inl (cA_10, 13, .inl (fun _ => 0))), (q_17, .inl (cA_9, 156, .inl (fun _ => 0))), (q_14, .inr (9, [.ref q_15, .int 0, .int 0])), (q_15, .inl (cA, 160, .inl (fun _ => 0))), (q_12, .inr (9, [.ref q_13, .int 0, .int 0])), (q_13, .inl (cA, 160, .inl (fun _ => 0))), (q_10, .inr (9, [.ref q_11, .int 0, .int 0])), (q_11, .inl (cA, 160, .inl (fun _ => 0))), (q_8, .inr (9, [.ref q_9, .int 0, .int 0])), (q_9, .inl (cA, 160, .inl (fun _ => 0))), (q_6, .inr (9, [.ref q_7, .int 0, .int 0])), (q_7, .inl (cA, 160, .inl (fun _ => 0))), (q_4, .inr (9, [.ref q_5, .int 0, .int 0])), (q_5, .inl (cA, 160, .inl (fun _ => 0))), (q_2, .inr (9, [.ref q_3, .int 0, .int 0])), (q_3, .inl (cA, 160, .inl (fun _ => 0))), (q, .inr (9, [.ref q_1, .int 0, .int 0])), (q_1, .inl (cA, 160, .inl (fun _ => 0)))] := by rw [eZ_28, eZ_27]; rfl
  clear eZ_27
  refine lv_aload_n hx hb px_d62_296 rfl (lv_at hl 0 rfl) ?_
  refine lv_iconst (v := (-1)) hx hb px_d62_297 (by decide) ?_
  refine va_put (D := (dC, dI)) (ci := 8) (v := .int (-1)) (ty := .int) (C := "MatroidDeskModel") (T := px_T8) (N := 53) hx hb htw px_in8 px_ty8 px_tyok8 px_nm8 hown hK hP hD hS 0 rfl rfl 42 (by decide) (htw _ px_w344) (fun _ h9 => h9) rfl (by decide +kernel) rfl rfl (by rw [hlen]; decide) px_d62_298 (fun H locs hP hD hS => ?_)
  replace hP : va_P (dC, dI) vwCl (([(h0, .inr (8, (fs32.set 42 (.int (-1))))), (q_16, .inl (cA_8, 156, .inr (.inr (.inr (.inr (fun _ => none)))))), (q_21, .inl (cA_13, 36, .inr (.inr (.inr (.inr (fun _ => none)))))), (q_32, .inl (cA_24, 4096, .inl (fun _ => 0))), (q_33, .inl (cA_25, 4096, .inl (fun _ => 0)))] : va_W) ++ Z_28) H := hP
  replace hD : va_D A (([(h0, .inr (8, (fs32.set 42 (.int (-1))))), (q_16, .inl (cA_8, 156, .inr (.inr (.inr (.inr (fun _ => none)))))), (q_21, .inl (cA_13, 36, .inr (.inr (.inr (.inr (fun _ => none)))))), (q_32, .inl (cA_24, 4096, .inl (fun _ => 0))), (q_33, .inl (cA_25, 4096, .inl (fun _ => 0)))] : va_W) ++ Z_28) := hD
  obtain ⟨fs33, efs_33⟩ : ∃ z : List Value, z = (fs32.set 42 (.int (-1))) := ⟨_, rfl⟩
  rw [← efs_33] at hP hD
  replace hk_8 : fs33[8]? = some (.ref q_16) := by rw [efs_33]; exact (px_sn (by decide)).trans hk_8
  replace hk_16 : fs33[16]? = some (.ref q_21) := by rw [efs_33]; exact (px_sn (by decide)).trans hk_16
  replace hk_27 : fs33[27]? = some (.ref q_32) := by rw [efs_33]; exact (px_sn (by decide)).trans hk_27
  replace hk_28 : fs33[28]? = some (.ref q_33) := by rw [efs_33]; exact (px_sn (by decide)).trans hk_28
  replace hlen : fs33.length = 53 := by rw [efs_33]; exact px_sl hlen
  replace efs_33 : fs33 = [.ref q, .ref q_2, .ref q_4, .ref q_6, .ref q_8, .ref q_10, .ref q_12, .ref q_14, .ref q_16, .ref q_17, .int 0, .int 0, .int 0, .ref q_18, .ref q_19, .ref q_20, .ref q_21, .ref q_22, .ref q_23, .ref q_24, .ref q_25, .ref q_26, .ref q_27, .ref q_28, .ref q_29, .ref q_30, .ref q_31, .ref q_32, .ref q_33, .ref q_34, .ref q_35, .ref q_36, .int 0, .int 0, .ref q_37, .ref q_38, .ref q_39, .int 0, .int 0, .int 0, .int 0, .int 0, .int (-1), .int 0, .null, .null, .null, .int 0, .null, .int 0, .null, .int 0, .int 0] := by rw [efs_33, efs_32]; rfl
  clear efs_32
  refine lv_aload_n hx hb px_d62_301 rfl (lv_at hl 0 rfl) ?_
  refine lv_sipush (v := 256) hx hb px_d62_302 (by decide) ?_
  refine va_newa (atype := .int) (ty := .int) (n := 256) (N' := 256) (a0 := (256, .inl (fun _ => 0))) hx hb (htw _ px_w2) rfl hK hP hD hS hA (fun _ => rfl) (by decide +kernel) (by decide +kernel) (by decide +kernel) (Nat.le_of_ble_eq_true rfl) (Nat.le_of_ble_eq_true rfl) px_d62_305 (fun q_40 cA_32 H hK hP hD hS => ?_)
  replace hP := hP.swap
  replace hD := hD.swap
  replace hP : va_P (dC, dI) vwCl (([(h0, .inr (8, fs33)), (q_16, .inl (cA_8, 156, .inr (.inr (.inr (.inr (fun _ => none)))))), (q_21, .inl (cA_13, 36, .inr (.inr (.inr (.inr (fun _ => none)))))), (q_32, .inl (cA_24, 4096, .inl (fun _ => 0))), (q_33, .inl (cA_25, 4096, .inl (fun _ => 0))), (q_40, .inl (cA_32, 256, .inl (fun _ => 0)))] : va_W) ++ Z_28) H := hP
  replace hD : va_D A (([(h0, .inr (8, fs33)), (q_16, .inl (cA_8, 156, .inr (.inr (.inr (.inr (fun _ => none)))))), (q_21, .inl (cA_13, 36, .inr (.inr (.inr (.inr (fun _ => none)))))), (q_32, .inl (cA_24, 4096, .inl (fun _ => 0))), (q_33, .inl (cA_25, 4096, .inl (fun _ => 0))), (q_40, .inl (cA_32, 256, .inl (fun _ => 0)))] : va_W) ++ Z_28) := hD
  replace hK : va_K (dC, dI) vwCl [(cA, .int), (cA, .int), (cA, .int), (cA, .int), (cA, .int), (cA, .int), (cA, .int), (cA, .int), (cA_8, .object "MatroidDeskModel$Num"), (cA_9, .int), (cA_10, .int), (cA_11, .int), (cA_12, .int), (cA_13, .object "MatroidDeskModel$Num"), (cA_14, .int), (cA_15, .boolean), (cA_16, .int), (cA_17, .int), (cA_18, .int), (cA_19, .int), (cA_20, .int), (cA_21, .int), (cA_22, .byte), (cA_23, .byte), (cA_24, .int), (cA_25, .int), (cA_26, .long), (cA_27, .long), (cA_28, .int), (cA_29, .int), (cA_30, .int), (cA_31, .byte), (cA_32, .int)] s := hK
  refine W.widen (k := 41) (n := 334097) (Nat.le_of_ble_eq_true rfl) (Nat.le_of_ble_eq_true rfl) ?_
  refine va_putF (D := (dC, dI)) (ci := 8) (v := .ref q_40) (ty := (.array .int)) (C := "MatroidDeskModel") (T := px_T8) (N := 53) hx hb htw px_in8 px_ty8 px_tyok8 px_nm8 hown hK hP hD hS 0 rfl rfl 44 (by decide) (htw _ px_w519) (fun _ h9 => h9) rfl hin rfl (by decide +kernel) rfl rfl (by rw [hlen]; decide) px_d62_307 (fun H locs hP hD hS => ?_)
  replace hP : va_P (dC, dI) vwCl (([(h0, .inr (8, (fs33.set 44 (.ref q_40)))), (q_16, .inl (cA_8, 156, .inr (.inr (.inr (.inr (fun _ => none)))))), (q_21, .inl (cA_13, 36, .inr (.inr (.inr (.inr (fun _ => none)))))), (q_32, .inl (cA_24, 4096, .inl (fun _ => 0))), (q_33, .inl (cA_25, 4096, .inl (fun _ => 0))), (q_40, .inl (cA_32, 256, .inl (fun _ => 0)))] : va_W) ++ Z_28) H := hP
  replace hD : va_D A (([(h0, .inr (8, (fs33.set 44 (.ref q_40)))), (q_16, .inl (cA_8, 156, .inr (.inr (.inr (.inr (fun _ => none)))))), (q_21, .inl (cA_13, 36, .inr (.inr (.inr (.inr (fun _ => none)))))), (q_32, .inl (cA_24, 4096, .inl (fun _ => 0))), (q_33, .inl (cA_25, 4096, .inl (fun _ => 0))), (q_40, .inl (cA_32, 256, .inl (fun _ => 0)))] : va_W) ++ Z_28) := hD
  obtain ⟨fs34, efs_34⟩ : ∃ z : List Value, z = (fs33.set 44 (.ref q_40)) := ⟨_, rfl⟩
  rw [← efs_34] at hP hD
  replace hk_8 : fs34[8]? = some (.ref q_16) := by rw [efs_34]; exact (px_sn (by decide)).trans hk_8
  replace hk_16 : fs34[16]? = some (.ref q_21) := by rw [efs_34]; exact (px_sn (by decide)).trans hk_16
  replace hk_27 : fs34[27]? = some (.ref q_32) := by rw [efs_34]; exact (px_sn (by decide)).trans hk_27
  replace hk_28 : fs34[28]? = some (.ref q_33) := by rw [efs_34]; exact (px_sn (by decide)).trans hk_28
  replace hlen : fs34.length = 53 := by rw [efs_34]; exact px_sl hlen
  replace efs_34 : fs34 = [.ref q, .ref q_2, .ref q_4, .ref q_6, .ref q_8, .ref q_10, .ref q_12, .ref q_14, .ref q_16, .ref q_17, .int 0, .int 0, .int 0, .ref q_18, .ref q_19, .ref q_20, .ref q_21, .ref q_22, .ref q_23, .ref q_24, .ref q_25, .ref q_26, .ref q_27, .ref q_28, .ref q_29, .ref q_30, .ref q_31, .ref q_32, .ref q_33, .ref q_34, .ref q_35, .ref q_36, .int 0, .int 0, .ref q_37, .ref q_38, .ref q_39, .int 0, .int 0, .int 0, .int 0, .int 0, .int (-1), .int 0, .ref q_40, .null, .null, .int 0, .null, .int 0, .null, .int 0, .int 0] := by rw [efs_34, efs_33]; rfl
  clear efs_33
  obtain ⟨Z_29, eZ_29⟩ : ∃ z : va_W, z = ([(q_40, .inl (cA_32, 256, .inl (fun _ => 0)))] : va_W) ++ Z_28 := ⟨_, rfl⟩
  replace hP : va_P (dC, dI) vwCl (([(h0, .inr (8, fs34)), (q_16, .inl (cA_8, 156, .inr (.inr (.inr (.inr (fun _ => none)))))), (q_21, .inl (cA_13, 36, .inr (.inr (.inr (.inr (fun _ => none)))))), (q_32, .inl (cA_24, 4096, .inl (fun _ => 0))), (q_33, .inl (cA_25, 4096, .inl (fun _ => 0)))] : va_W) ++ Z_29) H := by rw [eZ_29]; exact hP
  replace hD : va_D A (([(h0, .inr (8, fs34)), (q_16, .inl (cA_8, 156, .inr (.inr (.inr (.inr (fun _ => none)))))), (q_21, .inl (cA_13, 36, .inr (.inr (.inr (.inr (fun _ => none)))))), (q_32, .inl (cA_24, 4096, .inl (fun _ => 0))), (q_33, .inl (cA_25, 4096, .inl (fun _ => 0)))] : va_W) ++ Z_29) := by rw [eZ_29]; exact hD
  replace eZ_29 : Z_29 = [(q_40, .inl (cA_32, 256, .inl (fun _ => 0))), (q_39, .inl (cA_31, 16384, .inl (fun _ => 0))), (q_38, .inl (cA_30, 169, .inl (fun _ => 0))), (q_37, .inl (cA_29, 12, .inl (fun _ => 0))), (q_36, .inl (cA_28, 13, .inl (fun _ => 0))), (q_35, .inl (cA_27, 169, .inr (.inl (fun _ => 0)))), (q_34, .inl (cA_26, 169, .inr (.inl (fun _ => 0)))), (q_31, .inl (cA_23, 106496, .inl (fun _ => 0))), (q_30, .inl (cA_22, 106496, .inl (fun _ => 0))), (q_29, .inl (cA_21, 312, .inl (fun _ => 0))), (q_28, .inl (cA_20, 3744, .inl (fun _ => 0))), (q_27, .inl (cA_19, 89856, .inl (fun _ => 0))), (q_26, .inl (cA_18, 26, .inl (fun _ => 0))), (q_25, .inl (cA_17, 26, .inl (fun _ => 0))), (q_24, .inl (cA_16, 26, .inl (fun _ => 0))), (q_23, .inl (cA_15, 26, .inl (fun _ => 0))), (q_22, .inl (cA_14, 36, .inl (fun _ => 0))), (q_20, .inl (cA_12, 12, .inl (fun _ => 0))), (q_19, .inl (cA_11, 12, .inl (fun _ => 0))), (q_18, .inl (cA_10, 13, .inl (fun _ => 0))), (q_17, .inl (cA_9, 156, .inl (fun _ => 0))), (q_14, .inr (9, [.ref q_15, .int 0, .int 0])), (q_15, .inl (cA, 160, .inl (fun _ => 0))), (q_12, .inr (9, [.ref q_13, .int 0, .int 0])), (q_13, .inl (cA, 160, .inl (fun _ => 0))), (q_10, .inr (9, [.ref q_11, .int 0, .int 0])), (q_11, .inl (cA, 160, .inl (fun _ => 0))), (q_8, .inr (9, [.ref q_9, .int 0, .int 0])), (q_9, .inl (cA, 160, .inl (fun _ => 0))), (q_6, .inr (9, [.ref q_7, .int 0, .int 0])), (q_7, .inl (cA, 160, .inl (fun _ => 0))), (q_4, .inr (9, [.ref q_5, .int 0, .int 0])), (q_5, .inl (cA, 160, .inl (fun _ => 0))), (q_2, .inr (9, [.ref q_3, .int 0, .int 0])), (q_3, .inl (cA, 160, .inl (fun _ => 0))), (q, .inr (9, [.ref q_1, .int 0, .int 0])), (q_1, .inl (cA, 160, .inl (fun _ => 0)))] := by rw [eZ_29, eZ_28]; rfl
  clear eZ_28
  refine lv_aload_n hx hb px_d62_310 rfl (lv_at hl 0 rfl) ?_
  refine lv_bipush (v := 12) hx hb px_d62_311 (by decide) ?_
  refine va_newa (atype := .int) (ty := .int) (n := 12) (N' := 12) (a0 := (12, .inl (fun _ => 0))) hx hb (htw _ px_w2) rfl hK hP hD hS hA (fun _ => rfl) (by decide +kernel) (by decide +kernel) (by decide +kernel) (Nat.le_of_ble_eq_true rfl) (Nat.le_of_ble_eq_true rfl) px_d62_313 (fun q_41 cA_33 H hK hP hD hS => ?_)
  replace hP := hP.swap
  replace hD := hD.swap
  replace hP : va_P (dC, dI) vwCl (([(h0, .inr (8, fs34)), (q_16, .inl (cA_8, 156, .inr (.inr (.inr (.inr (fun _ => none)))))), (q_21, .inl (cA_13, 36, .inr (.inr (.inr (.inr (fun _ => none)))))), (q_32, .inl (cA_24, 4096, .inl (fun _ => 0))), (q_33, .inl (cA_25, 4096, .inl (fun _ => 0))), (q_41, .inl (cA_33, 12, .inl (fun _ => 0)))] : va_W) ++ Z_29) H := hP
  replace hD : va_D A (([(h0, .inr (8, fs34)), (q_16, .inl (cA_8, 156, .inr (.inr (.inr (.inr (fun _ => none)))))), (q_21, .inl (cA_13, 36, .inr (.inr (.inr (.inr (fun _ => none)))))), (q_32, .inl (cA_24, 4096, .inl (fun _ => 0))), (q_33, .inl (cA_25, 4096, .inl (fun _ => 0))), (q_41, .inl (cA_33, 12, .inl (fun _ => 0)))] : va_W) ++ Z_29) := hD
  replace hK : va_K (dC, dI) vwCl [(cA, .int), (cA, .int), (cA, .int), (cA, .int), (cA, .int), (cA, .int), (cA, .int), (cA, .int), (cA_8, .object "MatroidDeskModel$Num"), (cA_9, .int), (cA_10, .int), (cA_11, .int), (cA_12, .int), (cA_13, .object "MatroidDeskModel$Num"), (cA_14, .int), (cA_15, .boolean), (cA_16, .int), (cA_17, .int), (cA_18, .int), (cA_19, .int), (cA_20, .int), (cA_21, .int), (cA_22, .byte), (cA_23, .byte), (cA_24, .int), (cA_25, .int), (cA_26, .long), (cA_27, .long), (cA_28, .int), (cA_29, .int), (cA_30, .int), (cA_31, .byte), (cA_32, .int), (cA_33, .int)] s := hK
  refine W.widen (k := 42) (n := 334109) (Nat.le_of_ble_eq_true rfl) (Nat.le_of_ble_eq_true rfl) ?_
  refine va_putF (D := (dC, dI)) (ci := 8) (v := .ref q_41) (ty := (.array .int)) (C := "MatroidDeskModel") (T := px_T8) (N := 53) hx hb htw px_in8 px_ty8 px_tyok8 px_nm8 hown hK hP hD hS 0 rfl rfl 45 (by decide) (htw _ px_w520) (fun _ h9 => h9) rfl hin rfl (by decide +kernel) rfl rfl (by rw [hlen]; decide) px_d62_315 (fun H locs hP hD hS => ?_)
  replace hP : va_P (dC, dI) vwCl (([(h0, .inr (8, (fs34.set 45 (.ref q_41)))), (q_16, .inl (cA_8, 156, .inr (.inr (.inr (.inr (fun _ => none)))))), (q_21, .inl (cA_13, 36, .inr (.inr (.inr (.inr (fun _ => none)))))), (q_32, .inl (cA_24, 4096, .inl (fun _ => 0))), (q_33, .inl (cA_25, 4096, .inl (fun _ => 0))), (q_41, .inl (cA_33, 12, .inl (fun _ => 0)))] : va_W) ++ Z_29) H := hP
  replace hD : va_D A (([(h0, .inr (8, (fs34.set 45 (.ref q_41)))), (q_16, .inl (cA_8, 156, .inr (.inr (.inr (.inr (fun _ => none)))))), (q_21, .inl (cA_13, 36, .inr (.inr (.inr (.inr (fun _ => none)))))), (q_32, .inl (cA_24, 4096, .inl (fun _ => 0))), (q_33, .inl (cA_25, 4096, .inl (fun _ => 0))), (q_41, .inl (cA_33, 12, .inl (fun _ => 0)))] : va_W) ++ Z_29) := hD
  obtain ⟨fs35, efs_35⟩ : ∃ z : List Value, z = (fs34.set 45 (.ref q_41)) := ⟨_, rfl⟩
  rw [← efs_35] at hP hD
  replace hk_8 : fs35[8]? = some (.ref q_16) := by rw [efs_35]; exact (px_sn (by decide)).trans hk_8
  replace hk_16 : fs35[16]? = some (.ref q_21) := by rw [efs_35]; exact (px_sn (by decide)).trans hk_16
  replace hk_27 : fs35[27]? = some (.ref q_32) := by rw [efs_35]; exact (px_sn (by decide)).trans hk_27
  replace hk_28 : fs35[28]? = some (.ref q_33) := by rw [efs_35]; exact (px_sn (by decide)).trans hk_28
  replace hlen : fs35.length = 53 := by rw [efs_35]; exact px_sl hlen
  replace efs_35 : fs35 = [.ref q, .ref q_2, .ref q_4, .ref q_6, .ref q_8, .ref q_10, .ref q_12, .ref q_14, .ref q_16, .ref q_17, .int 0, .int 0, .int 0, .ref q_18, .ref q_19, .ref q_20, .ref q_21, .ref q_22, .ref q_23, .ref q_24, .ref q_25, .ref q_26, .ref q_27, .ref q_28, .ref q_29, .ref q_30, .ref q_31, .ref q_32, .ref q_33, .ref q_34, .ref q_35, .ref q_36, .int 0, .int 0, .ref q_37, .ref q_38, .ref q_39, .int 0, .int 0, .int 0, .int 0, .int 0, .int (-1), .int 0, .ref q_40, .ref q_41, .null, .int 0, .null, .int 0, .null, .int 0, .int 0] := by rw [efs_35, efs_34]; rfl
  clear efs_34
  obtain ⟨Z_30, eZ_30⟩ : ∃ z : va_W, z = ([(q_41, .inl (cA_33, 12, .inl (fun _ => 0)))] : va_W) ++ Z_29 := ⟨_, rfl⟩
  replace hP : va_P (dC, dI) vwCl (([(h0, .inr (8, fs35)), (q_16, .inl (cA_8, 156, .inr (.inr (.inr (.inr (fun _ => none)))))), (q_21, .inl (cA_13, 36, .inr (.inr (.inr (.inr (fun _ => none)))))), (q_32, .inl (cA_24, 4096, .inl (fun _ => 0))), (q_33, .inl (cA_25, 4096, .inl (fun _ => 0)))] : va_W) ++ Z_30) H := by rw [eZ_30]; exact hP
  replace hD : va_D A (([(h0, .inr (8, fs35)), (q_16, .inl (cA_8, 156, .inr (.inr (.inr (.inr (fun _ => none)))))), (q_21, .inl (cA_13, 36, .inr (.inr (.inr (.inr (fun _ => none)))))), (q_32, .inl (cA_24, 4096, .inl (fun _ => 0))), (q_33, .inl (cA_25, 4096, .inl (fun _ => 0)))] : va_W) ++ Z_30) := by rw [eZ_30]; exact hD
  replace eZ_30 : Z_30 = [(q_41, .inl (cA_33, 12, .inl (fun _ => 0))), (q_40, .inl (cA_32, 256, .inl (fun _ => 0))), (q_39, .inl (cA_31, 16384, .inl (fun _ => 0))), (q_38, .inl (cA_30, 169, .inl (fun _ => 0))), (q_37, .inl (cA_29, 12, .inl (fun _ => 0))), (q_36, .inl (cA_28, 13, .inl (fun _ => 0))), (q_35, .inl (cA_27, 169, .inr (.inl (fun _ => 0)))), (q_34, .inl (cA_26, 169, .inr (.inl (fun _ => 0)))), (q_31, .inl (cA_23, 106496, .inl (fun _ => 0))), (q_30, .inl (cA_22, 106496, .inl (fun _ => 0))), (q_29, .inl (cA_21, 312, .inl (fun _ => 0))), (q_28, .inl (cA_20, 3744, .inl (fun _ => 0))), (q_27, .inl (cA_19, 89856, .inl (fun _ => 0))), (q_26, .inl (cA_18, 26, .inl (fun _ => 0))), (q_25, .inl (cA_17, 26, .inl (fun _ => 0))), (q_24, .inl (cA_16, 26, .inl (fun _ => 0))), (q_23, .inl (cA_15, 26, .inl (fun _ => 0))), (q_22, .inl (cA_14, 36, .inl (fun _ => 0))), (q_20, .inl (cA_12, 12, .inl (fun _ => 0))), (q_19, .inl (cA_11, 12, .inl (fun _ => 0))), (q_18, .inl (cA_10, 13, .inl (fun _ => 0))), (q_17, .inl (cA_9, 156, .inl (fun _ => 0))), (q_14, .inr (9, [.ref q_15, .int 0, .int 0])), (q_15, .inl (cA, 160, .inl (fun _ => 0))), (q_12, .inr (9, [.ref q_13, .int 0, .int 0])), (q_13, .inl (cA, 160, .inl (fun _ => 0))), (q_10, .inr (9, [.ref q_11, .int 0, .int 0])), (q_11, .inl (cA, 160, .inl (fun _ => 0))), (q_8, .inr (9, [.ref q_9, .int 0, .int 0])), (q_9, .inl (cA, 160, .inl (fun _ => 0))), (q_6, .inr (9, [.ref q_7, .int 0, .int 0])), (q_7, .inl (cA, 160, .inl (fun _ => 0))), (q_4, .inr (9, [.ref q_5, .int 0, .int 0])), (q_5, .inl (cA, 160, .inl (fun _ => 0))), (q_2, .inr (9, [.ref q_3, .int 0, .int 0])), (q_3, .inl (cA, 160, .inl (fun _ => 0))), (q, .inr (9, [.ref q_1, .int 0, .int 0])), (q_1, .inl (cA, 160, .inl (fun _ => 0)))] := by rw [eZ_30, eZ_29]; rfl
  clear eZ_29
  refine lv_aload_n hx hb px_d62_318 rfl (lv_at hl 0 rfl) ?_
  refine lv_ldc hx hb (own := "MatroidDeskModel") (index := 218) (v := 65536) hown (htw _ px_w378) px_d62_319 ?_
  refine va_newa (atype := .byte) (ty := .byte) (n := 65536) (N' := 65536) (a0 := (65536, .inl (fun _ => 0))) hx hb (htw _ px_w3) rfl hK hP hD hS hA (fun _ => rfl) (by decide +kernel) (by decide +kernel) (by decide +kernel) (Nat.le_of_ble_eq_true rfl) (Nat.le_of_ble_eq_true rfl) px_d62_321 (fun q_42 cA_34 H hK hP hD hS => ?_)
  replace hP := hP.swap
  replace hD := hD.swap
  replace hP : va_P (dC, dI) vwCl (([(h0, .inr (8, fs35)), (q_16, .inl (cA_8, 156, .inr (.inr (.inr (.inr (fun _ => none)))))), (q_21, .inl (cA_13, 36, .inr (.inr (.inr (.inr (fun _ => none)))))), (q_32, .inl (cA_24, 4096, .inl (fun _ => 0))), (q_33, .inl (cA_25, 4096, .inl (fun _ => 0))), (q_42, .inl (cA_34, 65536, .inl (fun _ => 0)))] : va_W) ++ Z_30) H := hP
  replace hD : va_D A (([(h0, .inr (8, fs35)), (q_16, .inl (cA_8, 156, .inr (.inr (.inr (.inr (fun _ => none)))))), (q_21, .inl (cA_13, 36, .inr (.inr (.inr (.inr (fun _ => none)))))), (q_32, .inl (cA_24, 4096, .inl (fun _ => 0))), (q_33, .inl (cA_25, 4096, .inl (fun _ => 0))), (q_42, .inl (cA_34, 65536, .inl (fun _ => 0)))] : va_W) ++ Z_30) := hD
  replace hK : va_K (dC, dI) vwCl [(cA, .int), (cA, .int), (cA, .int), (cA, .int), (cA, .int), (cA, .int), (cA, .int), (cA, .int), (cA_8, .object "MatroidDeskModel$Num"), (cA_9, .int), (cA_10, .int), (cA_11, .int), (cA_12, .int), (cA_13, .object "MatroidDeskModel$Num"), (cA_14, .int), (cA_15, .boolean), (cA_16, .int), (cA_17, .int), (cA_18, .int), (cA_19, .int), (cA_20, .int), (cA_21, .int), (cA_22, .byte), (cA_23, .byte), (cA_24, .int), (cA_25, .int), (cA_26, .long), (cA_27, .long), (cA_28, .int), (cA_29, .int), (cA_30, .int), (cA_31, .byte), (cA_32, .int), (cA_33, .int), (cA_34, .byte)] s := hK
  refine W.widen (k := 43) (n := 399645) (Nat.le_of_ble_eq_true rfl) (Nat.le_of_ble_eq_true rfl) ?_
  refine va_putF (D := (dC, dI)) (ci := 8) (v := .ref q_42) (ty := (.array .byte)) (C := "MatroidDeskModel") (T := px_T8) (N := 53) hx hb htw px_in8 px_ty8 px_tyok8 px_nm8 hown hK hP hD hS 0 rfl rfl 46 (by decide) (htw _ px_w380) (fun _ h9 => h9) rfl hin rfl (by decide +kernel) rfl rfl (by rw [hlen]; decide) px_d62_323 (fun H locs hP hD hS => ?_)
  replace hP : va_P (dC, dI) vwCl (([(h0, .inr (8, (fs35.set 46 (.ref q_42)))), (q_16, .inl (cA_8, 156, .inr (.inr (.inr (.inr (fun _ => none)))))), (q_21, .inl (cA_13, 36, .inr (.inr (.inr (.inr (fun _ => none)))))), (q_32, .inl (cA_24, 4096, .inl (fun _ => 0))), (q_33, .inl (cA_25, 4096, .inl (fun _ => 0))), (q_42, .inl (cA_34, 65536, .inl (fun _ => 0)))] : va_W) ++ Z_30) H := hP
  replace hD : va_D A (([(h0, .inr (8, (fs35.set 46 (.ref q_42)))), (q_16, .inl (cA_8, 156, .inr (.inr (.inr (.inr (fun _ => none)))))), (q_21, .inl (cA_13, 36, .inr (.inr (.inr (.inr (fun _ => none)))))), (q_32, .inl (cA_24, 4096, .inl (fun _ => 0))), (q_33, .inl (cA_25, 4096, .inl (fun _ => 0))), (q_42, .inl (cA_34, 65536, .inl (fun _ => 0)))] : va_W) ++ Z_30) := hD
  obtain ⟨fs36, efs_36⟩ : ∃ z : List Value, z = (fs35.set 46 (.ref q_42)) := ⟨_, rfl⟩
  rw [← efs_36] at hP hD
  replace hk_8 : fs36[8]? = some (.ref q_16) := by rw [efs_36]; exact (px_sn (by decide)).trans hk_8
  replace hk_16 : fs36[16]? = some (.ref q_21) := by rw [efs_36]; exact (px_sn (by decide)).trans hk_16
  replace hk_27 : fs36[27]? = some (.ref q_32) := by rw [efs_36]; exact (px_sn (by decide)).trans hk_27
  replace hk_28 : fs36[28]? = some (.ref q_33) := by rw [efs_36]; exact (px_sn (by decide)).trans hk_28
  replace hlen : fs36.length = 53 := by rw [efs_36]; exact px_sl hlen
  replace efs_36 : fs36 = [.ref q, .ref q_2, .ref q_4, .ref q_6, .ref q_8, .ref q_10, .ref q_12, .ref q_14, .ref q_16, .ref q_17, .int 0, .int 0, .int 0, .ref q_18, .ref q_19, .ref q_20, .ref q_21, .ref q_22, .ref q_23, .ref q_24, .ref q_25, .ref q_26, .ref q_27, .ref q_28, .ref q_29, .ref q_30, .ref q_31, .ref q_32, .ref q_33, .ref q_34, .ref q_35, .ref q_36, .int 0, .int 0, .ref q_37, .ref q_38, .ref q_39, .int 0, .int 0, .int 0, .int 0, .int 0, .int (-1), .int 0, .ref q_40, .ref q_41, .ref q_42, .int 0, .null, .int 0, .null, .int 0, .int 0] := by rw [efs_36, efs_35]; rfl
  clear efs_35
  obtain ⟨Z_31, eZ_31⟩ : ∃ z : va_W, z = ([(q_42, .inl (cA_34, 65536, .inl (fun _ => 0)))] : va_W) ++ Z_30 := ⟨_, rfl⟩
  replace hP : va_P (dC, dI) vwCl (([(h0, .inr (8, fs36)), (q_16, .inl (cA_8, 156, .inr (.inr (.inr (.inr (fun _ => none)))))), (q_21, .inl (cA_13, 36, .inr (.inr (.inr (.inr (fun _ => none)))))), (q_32, .inl (cA_24, 4096, .inl (fun _ => 0))), (q_33, .inl (cA_25, 4096, .inl (fun _ => 0)))] : va_W) ++ Z_31) H := by rw [eZ_31]; exact hP
  replace hD : va_D A (([(h0, .inr (8, fs36)), (q_16, .inl (cA_8, 156, .inr (.inr (.inr (.inr (fun _ => none)))))), (q_21, .inl (cA_13, 36, .inr (.inr (.inr (.inr (fun _ => none)))))), (q_32, .inl (cA_24, 4096, .inl (fun _ => 0))), (q_33, .inl (cA_25, 4096, .inl (fun _ => 0)))] : va_W) ++ Z_31) := by rw [eZ_31]; exact hD
  replace eZ_31 : Z_31 = [(q_42, .inl (cA_34, 65536, .inl (fun _ => 0))), (q_41, .inl (cA_33, 12, .inl (fun _ => 0))), (q_40, .inl (cA_32, 256, .inl (fun _ => 0))), (q_39, .inl (cA_31, 16384, .inl (fun _ => 0))), (q_38, .inl (cA_30, 169, .inl (fun _ => 0))), (q_37, .inl (cA_29, 12, .inl (fun _ => 0))), (q_36, .inl (cA_28, 13, .inl (fun _ => 0))), (q_35, .inl (cA_27, 169, .inr (.inl (fun _ => 0)))), (q_34, .inl (cA_26, 169, .inr (.inl (fun _ => 0)))), (q_31, .inl (cA_23, 106496, .inl (fun _ => 0))), (q_30, .inl (cA_22, 106496, .inl (fun _ => 0))), (q_29, .inl (cA_21, 312, .inl (fun _ => 0))), (q_28, .inl (cA_20, 3744, .inl (fun _ => 0))), (q_27, .inl (cA_19, 89856, .inl (fun _ => 0))), (q_26, .inl (cA_18, 26, .inl (fun _ => 0))), (q_25, .inl (cA_17, 26, .inl (fun _ => 0))), (q_24, .inl (cA_16, 26, .inl (fun _ => 0))), (q_23, .inl (cA_15, 26, .inl (fun _ => 0))), (q_22, .inl (cA_14, 36, .inl (fun _ => 0))), (q_20, .inl (cA_12, 12, .inl (fun _ => 0))), (q_19, .inl (cA_11, 12, .inl (fun _ => 0))), (q_18, .inl (cA_10, 13, .inl (fun _ => 0))), (q_17, .inl (cA_9, 156, .inl (fun _ => 0))), (q_14, .inr (9, [.ref q_15, .int 0, .int 0])), (q_15, .inl (cA, 160, .inl (fun _ => 0))), (q_12, .inr (9, [.ref q_13, .int 0, .int 0])), (q_13, .inl (cA, 160, .inl (fun _ => 0))), (q_10, .inr (9, [.ref q_11, .int 0, .int 0])), (q_11, .inl (cA, 160, .inl (fun _ => 0))), (q_8, .inr (9, [.ref q_9, .int 0, .int 0])), (q_9, .inl (cA, 160, .inl (fun _ => 0))), (q_6, .inr (9, [.ref q_7, .int 0, .int 0])), (q_7, .inl (cA, 160, .inl (fun _ => 0))), (q_4, .inr (9, [.ref q_5, .int 0, .int 0])), (q_5, .inl (cA, 160, .inl (fun _ => 0))), (q_2, .inr (9, [.ref q_3, .int 0, .int 0])), (q_3, .inl (cA, 160, .inl (fun _ => 0))), (q, .inr (9, [.ref q_1, .int 0, .int 0])), (q_1, .inl (cA, 160, .inl (fun _ => 0)))] := by rw [eZ_31, eZ_30]; rfl
  clear eZ_30
  refine lv_aload_n hx hb px_d62_326 rfl (lv_at hl 0 rfl) ?_
  refine lv_sipush (v := 200) hx hb px_d62_327 (by decide) ?_
  refine va_newa (atype := .byte) (ty := .byte) (n := 200) (N' := 200) (a0 := (200, .inl (fun _ => 0))) hx hb (htw _ px_w3) rfl hK hP hD hS hA (fun _ => rfl) (by decide +kernel) (by decide +kernel) (by decide +kernel) (Nat.le_of_ble_eq_true rfl) (Nat.le_of_ble_eq_true rfl) px_d62_330 (fun q_43 cA_35 H hK hP hD hS => ?_)
  replace hP := hP.swap
  replace hD := hD.swap
  replace hP : va_P (dC, dI) vwCl (([(h0, .inr (8, fs36)), (q_16, .inl (cA_8, 156, .inr (.inr (.inr (.inr (fun _ => none)))))), (q_21, .inl (cA_13, 36, .inr (.inr (.inr (.inr (fun _ => none)))))), (q_32, .inl (cA_24, 4096, .inl (fun _ => 0))), (q_33, .inl (cA_25, 4096, .inl (fun _ => 0))), (q_43, .inl (cA_35, 200, .inl (fun _ => 0)))] : va_W) ++ Z_31) H := hP
  replace hD : va_D A (([(h0, .inr (8, fs36)), (q_16, .inl (cA_8, 156, .inr (.inr (.inr (.inr (fun _ => none)))))), (q_21, .inl (cA_13, 36, .inr (.inr (.inr (.inr (fun _ => none)))))), (q_32, .inl (cA_24, 4096, .inl (fun _ => 0))), (q_33, .inl (cA_25, 4096, .inl (fun _ => 0))), (q_43, .inl (cA_35, 200, .inl (fun _ => 0)))] : va_W) ++ Z_31) := hD
  replace hK : va_K (dC, dI) vwCl [(cA, .int), (cA, .int), (cA, .int), (cA, .int), (cA, .int), (cA, .int), (cA, .int), (cA, .int), (cA_8, .object "MatroidDeskModel$Num"), (cA_9, .int), (cA_10, .int), (cA_11, .int), (cA_12, .int), (cA_13, .object "MatroidDeskModel$Num"), (cA_14, .int), (cA_15, .boolean), (cA_16, .int), (cA_17, .int), (cA_18, .int), (cA_19, .int), (cA_20, .int), (cA_21, .int), (cA_22, .byte), (cA_23, .byte), (cA_24, .int), (cA_25, .int), (cA_26, .long), (cA_27, .long), (cA_28, .int), (cA_29, .int), (cA_30, .int), (cA_31, .byte), (cA_32, .int), (cA_33, .int), (cA_34, .byte), (cA_35, .byte)] s := hK
  refine W.widen (k := 44) (n := 399845) (Nat.le_of_ble_eq_true rfl) (Nat.le_of_ble_eq_true rfl) ?_
  refine va_putF (D := (dC, dI)) (ci := 8) (v := .ref q_43) (ty := (.array .byte)) (C := "MatroidDeskModel") (T := px_T8) (N := 53) hx hb htw px_in8 px_ty8 px_tyok8 px_nm8 hown hK hP hD hS 0 rfl rfl 48 (by decide) (htw _ px_w521) (fun _ h9 => h9) rfl hin rfl (by decide +kernel) rfl rfl (by rw [hlen]; decide) px_d62_332 (fun H locs hP hD hS => ?_)
  replace hP : va_P (dC, dI) vwCl (([(h0, .inr (8, (fs36.set 48 (.ref q_43)))), (q_16, .inl (cA_8, 156, .inr (.inr (.inr (.inr (fun _ => none)))))), (q_21, .inl (cA_13, 36, .inr (.inr (.inr (.inr (fun _ => none)))))), (q_32, .inl (cA_24, 4096, .inl (fun _ => 0))), (q_33, .inl (cA_25, 4096, .inl (fun _ => 0))), (q_43, .inl (cA_35, 200, .inl (fun _ => 0)))] : va_W) ++ Z_31) H := hP
  replace hD : va_D A (([(h0, .inr (8, (fs36.set 48 (.ref q_43)))), (q_16, .inl (cA_8, 156, .inr (.inr (.inr (.inr (fun _ => none)))))), (q_21, .inl (cA_13, 36, .inr (.inr (.inr (.inr (fun _ => none)))))), (q_32, .inl (cA_24, 4096, .inl (fun _ => 0))), (q_33, .inl (cA_25, 4096, .inl (fun _ => 0))), (q_43, .inl (cA_35, 200, .inl (fun _ => 0)))] : va_W) ++ Z_31) := hD
  obtain ⟨fs37, efs_37⟩ : ∃ z : List Value, z = (fs36.set 48 (.ref q_43)) := ⟨_, rfl⟩
  rw [← efs_37] at hP hD
  replace hk_8 : fs37[8]? = some (.ref q_16) := by rw [efs_37]; exact (px_sn (by decide)).trans hk_8
  replace hk_16 : fs37[16]? = some (.ref q_21) := by rw [efs_37]; exact (px_sn (by decide)).trans hk_16
  replace hk_27 : fs37[27]? = some (.ref q_32) := by rw [efs_37]; exact (px_sn (by decide)).trans hk_27
  replace hk_28 : fs37[28]? = some (.ref q_33) := by rw [efs_37]; exact (px_sn (by decide)).trans hk_28
  replace hlen : fs37.length = 53 := by rw [efs_37]; exact px_sl hlen
  replace efs_37 : fs37 = [.ref q, .ref q_2, .ref q_4, .ref q_6, .ref q_8, .ref q_10, .ref q_12, .ref q_14, .ref q_16, .ref q_17, .int 0, .int 0, .int 0, .ref q_18, .ref q_19, .ref q_20, .ref q_21, .ref q_22, .ref q_23, .ref q_24, .ref q_25, .ref q_26, .ref q_27, .ref q_28, .ref q_29, .ref q_30, .ref q_31, .ref q_32, .ref q_33, .ref q_34, .ref q_35, .ref q_36, .int 0, .int 0, .ref q_37, .ref q_38, .ref q_39, .int 0, .int 0, .int 0, .int 0, .int 0, .int (-1), .int 0, .ref q_40, .ref q_41, .ref q_42, .int 0, .ref q_43, .int 0, .null, .int 0, .int 0] := by rw [efs_37, efs_36]; rfl
  clear efs_36
  obtain ⟨Z_32, eZ_32⟩ : ∃ z : va_W, z = ([(q_43, .inl (cA_35, 200, .inl (fun _ => 0)))] : va_W) ++ Z_31 := ⟨_, rfl⟩
  replace hP : va_P (dC, dI) vwCl (([(h0, .inr (8, fs37)), (q_16, .inl (cA_8, 156, .inr (.inr (.inr (.inr (fun _ => none)))))), (q_21, .inl (cA_13, 36, .inr (.inr (.inr (.inr (fun _ => none)))))), (q_32, .inl (cA_24, 4096, .inl (fun _ => 0))), (q_33, .inl (cA_25, 4096, .inl (fun _ => 0)))] : va_W) ++ Z_32) H := by rw [eZ_32]; exact hP
  replace hD : va_D A (([(h0, .inr (8, fs37)), (q_16, .inl (cA_8, 156, .inr (.inr (.inr (.inr (fun _ => none)))))), (q_21, .inl (cA_13, 36, .inr (.inr (.inr (.inr (fun _ => none)))))), (q_32, .inl (cA_24, 4096, .inl (fun _ => 0))), (q_33, .inl (cA_25, 4096, .inl (fun _ => 0)))] : va_W) ++ Z_32) := by rw [eZ_32]; exact hD
  replace eZ_32 : Z_32 = [(q_43, .inl (cA_35, 200, .inl (fun _ => 0))), (q_42, .inl (cA_34, 65536, .inl (fun _ => 0))), (q_41, .inl (cA_33, 12, .inl (fun _ => 0))), (q_40, .inl (cA_32, 256, .inl (fun _ => 0))), (q_39, .inl (cA_31, 16384, .inl (fun _ => 0))), (q_38, .inl (cA_30, 169, .inl (fun _ => 0))), (q_37, .inl (cA_29, 12, .inl (fun _ => 0))), (q_36, .inl (cA_28, 13, .inl (fun _ => 0))), (q_35, .inl (cA_27, 169, .inr (.inl (fun _ => 0)))), (q_34, .inl (cA_26, 169, .inr (.inl (fun _ => 0)))), (q_31, .inl (cA_23, 106496, .inl (fun _ => 0))), (q_30, .inl (cA_22, 106496, .inl (fun _ => 0))), (q_29, .inl (cA_21, 312, .inl (fun _ => 0))), (q_28, .inl (cA_20, 3744, .inl (fun _ => 0))), (q_27, .inl (cA_19, 89856, .inl (fun _ => 0))), (q_26, .inl (cA_18, 26, .inl (fun _ => 0))), (q_25, .inl (cA_17, 26, .inl (fun _ => 0))), (q_24, .inl (cA_16, 26, .inl (fun _ => 0))), (q_23, .inl (cA_15, 26, .inl (fun _ => 0))), (q_22, .inl (cA_14, 36, .inl (fun _ => 0))), (q_20, .inl (cA_12, 12, .inl (fun _ => 0))), (q_19, .inl (cA_11, 12, .inl (fun _ => 0))), (q_18, .inl (cA_10, 13, .inl (fun _ => 0))), (q_17, .inl (cA_9, 156, .inl (fun _ => 0))), (q_14, .inr (9, [.ref q_15, .int 0, .int 0])), (q_15, .inl (cA, 160, .inl (fun _ => 0))), (q_12, .inr (9, [.ref q_13, .int 0, .int 0])), (q_13, .inl (cA, 160, .inl (fun _ => 0))), (q_10, .inr (9, [.ref q_11, .int 0, .int 0])), (q_11, .inl (cA, 160, .inl (fun _ => 0))), (q_8, .inr (9, [.ref q_9, .int 0, .int 0])), (q_9, .inl (cA, 160, .inl (fun _ => 0))), (q_6, .inr (9, [.ref q_7, .int 0, .int 0])), (q_7, .inl (cA, 160, .inl (fun _ => 0))), (q_4, .inr (9, [.ref q_5, .int 0, .int 0])), (q_5, .inl (cA, 160, .inl (fun _ => 0))), (q_2, .inr (9, [.ref q_3, .int 0, .int 0])), (q_3, .inl (cA, 160, .inl (fun _ => 0))), (q, .inr (9, [.ref q_1, .int 0, .int 0])), (q_1, .inl (cA, 160, .inl (fun _ => 0)))] := by rw [eZ_32, eZ_31]; rfl
  clear eZ_31
  refine lv_aload_n hx hb px_d62_335 rfl (lv_at hl 0 rfl) ?_
  refine lv_sipush (v := 16384) hx hb px_d62_336 (by decide) ?_
  refine va_newa (atype := .byte) (ty := .byte) (n := 16384) (N' := 16384) (a0 := (16384, .inl (fun _ => 0))) hx hb (htw _ px_w3) rfl hK hP hD hS hA (fun _ => rfl) (by decide +kernel) (by decide +kernel) (by decide +kernel) (Nat.le_of_ble_eq_true rfl) (Nat.le_of_ble_eq_true rfl) px_d62_339 (fun q_44 cA_36 H hK hP hD hS => ?_)
  replace hP := hP.swap
  replace hD := hD.swap
  replace hP : va_P (dC, dI) vwCl (([(h0, .inr (8, fs37)), (q_16, .inl (cA_8, 156, .inr (.inr (.inr (.inr (fun _ => none)))))), (q_21, .inl (cA_13, 36, .inr (.inr (.inr (.inr (fun _ => none)))))), (q_32, .inl (cA_24, 4096, .inl (fun _ => 0))), (q_33, .inl (cA_25, 4096, .inl (fun _ => 0))), (q_44, .inl (cA_36, 16384, .inl (fun _ => 0)))] : va_W) ++ Z_32) H := hP
  replace hD : va_D A (([(h0, .inr (8, fs37)), (q_16, .inl (cA_8, 156, .inr (.inr (.inr (.inr (fun _ => none)))))), (q_21, .inl (cA_13, 36, .inr (.inr (.inr (.inr (fun _ => none)))))), (q_32, .inl (cA_24, 4096, .inl (fun _ => 0))), (q_33, .inl (cA_25, 4096, .inl (fun _ => 0))), (q_44, .inl (cA_36, 16384, .inl (fun _ => 0)))] : va_W) ++ Z_32) := hD
  replace hK : va_K (dC, dI) vwCl [(cA, .int), (cA, .int), (cA, .int), (cA, .int), (cA, .int), (cA, .int), (cA, .int), (cA, .int), (cA_8, .object "MatroidDeskModel$Num"), (cA_9, .int), (cA_10, .int), (cA_11, .int), (cA_12, .int), (cA_13, .object "MatroidDeskModel$Num"), (cA_14, .int), (cA_15, .boolean), (cA_16, .int), (cA_17, .int), (cA_18, .int), (cA_19, .int), (cA_20, .int), (cA_21, .int), (cA_22, .byte), (cA_23, .byte), (cA_24, .int), (cA_25, .int), (cA_26, .long), (cA_27, .long), (cA_28, .int), (cA_29, .int), (cA_30, .int), (cA_31, .byte), (cA_32, .int), (cA_33, .int), (cA_34, .byte), (cA_35, .byte), (cA_36, .byte)] s := hK
  refine W.widen (k := 45) (n := 416229) (Nat.le_of_ble_eq_true rfl) (Nat.le_of_ble_eq_true rfl) ?_
  refine va_putF (D := (dC, dI)) (ci := 8) (v := .ref q_44) (ty := (.array .byte)) (C := "MatroidDeskModel") (T := px_T8) (N := 53) hx hb htw px_in8 px_ty8 px_tyok8 px_nm8 hown hK hP hD hS 0 rfl rfl 50 (by decide) (htw _ px_w388) (fun _ h9 => h9) rfl hin rfl (by decide +kernel) rfl rfl (by rw [hlen]; decide) px_d62_341 (fun H locs hP hD hS => ?_)
  replace hP : va_P (dC, dI) vwCl (([(h0, .inr (8, (fs37.set 50 (.ref q_44)))), (q_16, .inl (cA_8, 156, .inr (.inr (.inr (.inr (fun _ => none)))))), (q_21, .inl (cA_13, 36, .inr (.inr (.inr (.inr (fun _ => none)))))), (q_32, .inl (cA_24, 4096, .inl (fun _ => 0))), (q_33, .inl (cA_25, 4096, .inl (fun _ => 0))), (q_44, .inl (cA_36, 16384, .inl (fun _ => 0)))] : va_W) ++ Z_32) H := hP
  replace hD : va_D A (([(h0, .inr (8, (fs37.set 50 (.ref q_44)))), (q_16, .inl (cA_8, 156, .inr (.inr (.inr (.inr (fun _ => none)))))), (q_21, .inl (cA_13, 36, .inr (.inr (.inr (.inr (fun _ => none)))))), (q_32, .inl (cA_24, 4096, .inl (fun _ => 0))), (q_33, .inl (cA_25, 4096, .inl (fun _ => 0))), (q_44, .inl (cA_36, 16384, .inl (fun _ => 0)))] : va_W) ++ Z_32) := hD
  obtain ⟨fs38, efs_38⟩ : ∃ z : List Value, z = (fs37.set 50 (.ref q_44)) := ⟨_, rfl⟩
  rw [← efs_38] at hP hD
  replace hk_8 : fs38[8]? = some (.ref q_16) := by rw [efs_38]; exact (px_sn (by decide)).trans hk_8
  replace hk_16 : fs38[16]? = some (.ref q_21) := by rw [efs_38]; exact (px_sn (by decide)).trans hk_16
  replace hk_27 : fs38[27]? = some (.ref q_32) := by rw [efs_38]; exact (px_sn (by decide)).trans hk_27
  replace hk_28 : fs38[28]? = some (.ref q_33) := by rw [efs_38]; exact (px_sn (by decide)).trans hk_28
  replace hlen : fs38.length = 53 := by rw [efs_38]; exact px_sl hlen
  replace efs_38 : fs38 = [.ref q, .ref q_2, .ref q_4, .ref q_6, .ref q_8, .ref q_10, .ref q_12, .ref q_14, .ref q_16, .ref q_17, .int 0, .int 0, .int 0, .ref q_18, .ref q_19, .ref q_20, .ref q_21, .ref q_22, .ref q_23, .ref q_24, .ref q_25, .ref q_26, .ref q_27, .ref q_28, .ref q_29, .ref q_30, .ref q_31, .ref q_32, .ref q_33, .ref q_34, .ref q_35, .ref q_36, .int 0, .int 0, .ref q_37, .ref q_38, .ref q_39, .int 0, .int 0, .int 0, .int 0, .int 0, .int (-1), .int 0, .ref q_40, .ref q_41, .ref q_42, .int 0, .ref q_43, .int 0, .ref q_44, .int 0, .int 0] := by rw [efs_38, efs_37]; rfl
  clear efs_37
  obtain ⟨Z_33, eZ_33⟩ : ∃ z : va_W, z = ([(q_44, .inl (cA_36, 16384, .inl (fun _ => 0)))] : va_W) ++ Z_32 := ⟨_, rfl⟩
  replace hP : va_P (dC, dI) vwCl (([(h0, .inr (8, fs38)), (q_16, .inl (cA_8, 156, .inr (.inr (.inr (.inr (fun _ => none)))))), (q_21, .inl (cA_13, 36, .inr (.inr (.inr (.inr (fun _ => none)))))), (q_32, .inl (cA_24, 4096, .inl (fun _ => 0))), (q_33, .inl (cA_25, 4096, .inl (fun _ => 0)))] : va_W) ++ Z_33) H := by rw [eZ_33]; exact hP
  replace hD : va_D A (([(h0, .inr (8, fs38)), (q_16, .inl (cA_8, 156, .inr (.inr (.inr (.inr (fun _ => none)))))), (q_21, .inl (cA_13, 36, .inr (.inr (.inr (.inr (fun _ => none)))))), (q_32, .inl (cA_24, 4096, .inl (fun _ => 0))), (q_33, .inl (cA_25, 4096, .inl (fun _ => 0)))] : va_W) ++ Z_33) := by rw [eZ_33]; exact hD
  replace eZ_33 : Z_33 = [(q_44, .inl (cA_36, 16384, .inl (fun _ => 0))), (q_43, .inl (cA_35, 200, .inl (fun _ => 0))), (q_42, .inl (cA_34, 65536, .inl (fun _ => 0))), (q_41, .inl (cA_33, 12, .inl (fun _ => 0))), (q_40, .inl (cA_32, 256, .inl (fun _ => 0))), (q_39, .inl (cA_31, 16384, .inl (fun _ => 0))), (q_38, .inl (cA_30, 169, .inl (fun _ => 0))), (q_37, .inl (cA_29, 12, .inl (fun _ => 0))), (q_36, .inl (cA_28, 13, .inl (fun _ => 0))), (q_35, .inl (cA_27, 169, .inr (.inl (fun _ => 0)))), (q_34, .inl (cA_26, 169, .inr (.inl (fun _ => 0)))), (q_31, .inl (cA_23, 106496, .inl (fun _ => 0))), (q_30, .inl (cA_22, 106496, .inl (fun _ => 0))), (q_29, .inl (cA_21, 312, .inl (fun _ => 0))), (q_28, .inl (cA_20, 3744, .inl (fun _ => 0))), (q_27, .inl (cA_19, 89856, .inl (fun _ => 0))), (q_26, .inl (cA_18, 26, .inl (fun _ => 0))), (q_25, .inl (cA_17, 26, .inl (fun _ => 0))), (q_24, .inl (cA_16, 26, .inl (fun _ => 0))), (q_23, .inl (cA_15, 26, .inl (fun _ => 0))), (q_22, .inl (cA_14, 36, .inl (fun _ => 0))), (q_20, .inl (cA_12, 12, .inl (fun _ => 0))), (q_19, .inl (cA_11, 12, .inl (fun _ => 0))), (q_18, .inl (cA_10, 13, .inl (fun _ => 0))), (q_17, .inl (cA_9, 156, .inl (fun _ => 0))), (q_14, .inr (9, [.ref q_15, .int 0, .int 0])), (q_15, .inl (cA, 160, .inl (fun _ => 0))), (q_12, .inr (9, [.ref q_13, .int 0, .int 0])), (q_13, .inl (cA, 160, .inl (fun _ => 0))), (q_10, .inr (9, [.ref q_11, .int 0, .int 0])), (q_11, .inl (cA, 160, .inl (fun _ => 0))), (q_8, .inr (9, [.ref q_9, .int 0, .int 0])), (q_9, .inl (cA, 160, .inl (fun _ => 0))), (q_6, .inr (9, [.ref q_7, .int 0, .int 0])), (q_7, .inl (cA, 160, .inl (fun _ => 0))), (q_4, .inr (9, [.ref q_5, .int 0, .int 0])), (q_5, .inl (cA, 160, .inl (fun _ => 0))), (q_2, .inr (9, [.ref q_3, .int 0, .int 0])), (q_3, .inl (cA, 160, .inl (fun _ => 0))), (q, .inr (9, [.ref q_1, .int 0, .int 0])), (q_1, .inl (cA, 160, .inl (fun _ => 0)))] := by rw [eZ_33, eZ_32]; rfl
  clear eZ_32
  refine lv_iconst (v := 0) hx hb px_d62_344 (by decide) ?_
  refine lv_istore_n (lv' := [(1, .int 0), (0, .ref h0)]) hx hb px_d62_345 rfl hl (by decide) rfl (fun ls hl => ?_)
  replace hP := hP.part (cx := ([(h0, .inr (8, fs38)), (q_16, .inl (cA_8, 156, .inr (.inr (.inr (.inr (fun _ => none)))))), (q_21, .inl (cA_13, 36, .inr (.inr (.inr (.inr (fun _ => none)))))), (q_32, .inl (cA_24, 4096, .inl (fun _ => 0))), (q_33, .inl (cA_25, 4096, .inl (fun _ => 0)))] : va_W)) [0, 1, 2, 3, 4] rfl
  replace hD := hD.part (cx := ([(h0, .inr (8, fs38)), (q_16, .inl (cA_8, 156, .inr (.inr (.inr (.inr (fun _ => none)))))), (q_21, .inl (cA_13, 36, .inr (.inr (.inr (.inr (fun _ => none)))))), (q_32, .inl (cA_24, 4096, .inl (fun _ => 0))), (q_33, .inl (cA_25, 4096, .inl (fun _ => 0)))] : va_W)) [0, 1, 2, 3, 4] (by decide) rfl
  have hK5 := hK.sub (tys' := [(cA, .int), (cA_8, .object "MatroidDeskModel$Num"), (cA_13, .object "MatroidDeskModel$Num"), (cA_24, .int), (cA_25, .int)]) [0, 8, 13, 24, 25] rfl
  refine px_Mrest hx hb hml hown htw hN hA hK5 hlen hk_8 hk_16 hk_27 hk_28 (fun hh qq fo fz H locs ls hT hP hD hS => ?_) H locs ls hP hD hS hl
  rw [eZ_33, efs_38] at hP hD
  obtain ⟨h2, q2, hP, hD⟩ := px_Mfin hP hD
  rw [← hQ]
  have hK9 := hK.sub (tys' := [(cA_8, .object "MatroidDeskModel$Num"), (cA_9, .int), (cA_10, .int), (cA_11, .int), (cA_12, .int), (cA_13, .object "MatroidDeskModel$Num"), (cA_14, .int), (cA_15, .boolean), (cA_16, .int), (cA_17, .int), (cA_18, .int), (cA_19, .int), (cA_20, .int), (cA_21, .int), (cA_22, .byte), (cA_23, .byte), (cA_24, .int), (cA_25, .int), (cA_26, .long), (cA_27, .long), (cA_28, .int), (cA_29, .int), (cA_30, .int), (cA_31, .byte), (cA_32, .int), (cA_33, .int), (cA_34, .byte), (cA_35, .byte), (cA_36, .byte), (cA, .int)]) [8, 9, 10, 11, 12, 13, 14, 15, 16, 17, 18, 19, 20, 21, 22, 23, 24, 25, 26, 27, 28, 29, 30, 31, 32, 33, 34, 35, 36, 0] rfl
  exact W.vret hx hb hr (fun t ht hW => ⟨⟨(), rfl, trivial, h2, q2, (fun k => [0, 0, 0, 0, 0, 0, 0, 0, q_16, q_17, 0, 0, 0, q_18, q_19, q_20, q_21, q_22, q_23, q_24, q_25, q_26, q_27, q_28, q_29, q_30, q_31, q_32, q_33, q_34, q_35, q_36, 0, 0, q_37, q_38, q_39, 0, 0, 0, 0, 0, 0, 0, q_40, q_41, q_42, 0, q_43, 0, q_44, 0, 0].getD k 0), fo, fz, cA_8, cA_9, cA_10, cA_11, cA_12, cA_13, cA_14, cA_15, cA_16, cA_17, cA_18, cA_19, cA_20, cA_21, cA_22, cA_23, cA_24, cA_25, cA_26, cA_27, cA_28, cA_29, cA_30, cA_31, cA_32, cA_33, cA_34, cA_35, cA_36, cA, by rw [ht]; exact hP, va_K.moved hW.alike hK9, hD, hT⟩, hS.F ht⟩) hS.2.2 px_d62_424
