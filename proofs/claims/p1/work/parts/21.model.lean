/-- what a first call reads of the reference -/
def px_mdl (fs : List Value) (qt qc : Nat) : Prop := fs.length = 53 ∧ fs[18]? = some (.ref qt) ∧ fs[50]? = some (.ref qc) ∧ fs[51]? = some (.int 0) ∧ fs[47]? = some (.int 0) ∧ fs[42]? = some (.int (-1)) ∧ fs[52]? = some (.int 0) ∧ fs[49]? = some (.int 0)

set_option maxHeartbeats 8000000 in
set_option maxRecDepth 100000 in
/-- MatroidDeskModel(): what a first call reads of it -/
theorem px_Model_init (l : Launch) (dC : Nat → ClassId) (dI : Nat → Nat → Nat) (sz : Nat) (h0 : Nat) : Met l px_y10 px_s10 ({ frames := 13, cells := 429, slots := 447525, locals := 338 }) (va_Pc [.ref h0] (fun U => U.heap.size = sz ∧ va_P (dC, dI) vwCl [(h0, .inr (8, [.null, .null, .null, .null, .null, .null, .null, .null, .null, .null, .int 0, .int 0, .int 0, .null, .null, .null, .null, .null, .null, .null, .null, .null, .null, .null, .null, .null, .null, .null, .null, .null, .null, .null, .int 0, .int 0, .null, .null, .null, .int 0, .int 0, .int 0, .int 0, .int 0, .int 0, .int 0, .null, .null, .null, .int 0, .null, .int 0, .null, .int 0, .int 0]))] U.heap ∧ va_K (dC, dI) vwCl [] U ∧ va_D (fun _ => True) [(h0, .inr (8, [.null, .null, .null, .null, .null, .null, .null, .null, .null, .null, .int 0, .int 0, .int 0, .null, .null, .null, .null, .null, .null, .null, .null, .null, .null, .null, .null, .null, .null, .null, .null, .null, .null, .null, .int 0, .int 0, .null, .null, .null, .int 0, .int 0, .int 0, .int 0, .int 0, .int 0, .int 0, .null, .null, .null, .int 0, .null, .int 0, .null, .int 0, .int 0]))] ∧ px_N U)) (va_Qv (fun (_ : Unit) => True) (fun (_ : Unit) (t : State) => ∃ (fs : List Value) (qt : Nat) (qc : Nat) (ct : ClassId) (cc : ClassId), va_P (dC, dI) vwCl [(h0, .inr (8, fs)), (qt, .inl (ct, 26, .inl (fun _ => 0))), (qc, .inl (cc, 16384, .inl (fun _ => 0)))] t.heap ∧ va_K (dC, dI) vwCl [(ct, .boolean), (cc, .byte)] t ∧ va_D (va_A [(h0, .inr (8, [.null, .null, .null, .null, .null, .null, .null, .null, .null, .null, .int 0, .int 0, .int 0, .null, .null, .null, .null, .null, .null, .null, .null, .null, .null, .null, .null, .null, .null, .null, .null, .null, .null, .null, .int 0, .int 0, .null, .null, .null, .int 0, .int 0, .int 0, .int 0, .int 0, .int 0, .int 0, .null, .null, .null, .int 0, .null, .int 0, .null, .int 0, .int 0]))] sz) [(h0, .inr (8, fs)), (qt, .inl (ct, 26, .inl (fun _ => 0))), (qc, .inl (cc, 16384, .inl (fun _ => 0)))] ∧ px_mdl fs qt qc) (va_A [(h0, .inr (8, [.null, .null, .null, .null, .null, .null, .null, .null, .null, .null, .int 0, .int 0, .int 0, .null, .null, .null, .null, .null, .null, .null, .null, .null, .null, .null, .null, .null, .null, .null, .null, .null, .null, .null, .int 0, .int 0, .null, .null, .null, .int 0, .int 0, .int 0, .int 0, .int 0, .int 0, .int 0, .null, .null, .null, .int 0, .null, .int 0, .null, .int 0, .int 0]))] sz)) 429 447525 (va_A [(h0, .inr (8, [.null, .null, .null, .null, .null, .null, .null, .null, .null, .null, .int 0, .int 0, .int 0, .null, .null, .null, .null, .null, .null, .null, .null, .null, .null, .null, .null, .null, .null, .null, .null, .null, .null, .null, .int 0, .int 0, .null, .null, .null, .int 0, .int 0, .int 0, .int 0, .int 0, .int 0, .int 0, .null, .null, .null, .int 0, .null, .int 0, .null, .int 0, .int 0]))] sz) := by
  refine Met.ofW (cc := prog_15_method_17_code) (maxL := 3) (ret := none) (by decide) rfl ?_
  intro p e s m args below meth c s₁ B hml hv
  obtain ⟨rfl, hsz, hP, hK, hD0, hN⟩ := hv
  have hx := B.exec
  have hb := B.bytes
  have hr := B.returns
  have htw : ∀ w ∈ px_all, w.before _ s = true := fun w h => atoms_spec (ws := px_s10) B.pre w (List.mem_cons_of_mem _ h)
  have hown : s.vm.findClass "MatroidDeskModel" = some m.cls := findClass_of_methodNamed B.named
  have hlocks := B.notSynchronized
  have hin : meth.name = "<init>" := (name_of_methodNamed B.named B.method).1
  subst hsz
  have hD := hD0.self (sz := s.heap.size)
  generalize hAe : va_A [(h0, .inr (8, [.null, .null, .null, .null, .null, .null, .null, .null, .null, .null, .int 0, .int 0, .int 0, .null, .null, .null, .null, .null, .null, .null, .null, .null, .null, .null, .null, .null, .null, .null, .null, .null, .null, .null, .int 0, .int 0, .null, .null, .null, .int 0, .int 0, .int 0, .int 0, .int 0, .int 0, .int 0, .null, .null, .null, .int 0, .null, .int 0, .null, .int 0, .int 0]))] s.heap.size = A at hD ⊢
  have hA : ∀ q : Nat, s.heap.size ≤ q → A q := fun q h => by rw [← hAe]; exact Or.inr h
  have hS : va_S A s.heap s.heap [] := va_S.rf
  have hP : va_P (dC, dI) vwCl [(h0, .inr (8, [.null, .null, .null, .null, .null, .null, .null, .null, .null, .null, .int 0, .int 0, .int 0, .null, .null, .null, .null, .null, .null, .null, .null, .null, .null, .null, .null, .null, .null, .null, .null, .null, .null, .null, .int 0, .int 0, .null, .null, .null, .int 0, .int 0, .int 0, .int 0, .int 0, .int 0, .int 0, .null, .null, .null, .int 0, .null, .int 0, .null, .int 0, .int 0]))] s.heap := hP
  have hl := lv_entry ([.ref h0]) (n := 3) (Nat.le_of_ble_eq_true rfl)
  rw [lg_entry_eq]
  generalize (lg_sl ([.ref h0]) ++ List.replicate (3 - (lg_sl ([.ref h0])).length) Slot.unset).toArray = ls at hl ⊢
  have hl : lv_has ls 3 [(0, .ref h0)] := hl
  generalize hQ : MQ _ _ _ _ _ _ _ = Q
  obtain ⟨fs0, efs⟩ : ∃ z : List Value, z = [.null, .null, .null, .null, .null, .null, .null, .null, .null, .null, .int 0, .int 0, .int 0, .null, .null, .null, .null, .null, .null, .null, .null, .null, .null, .null, .null, .null, .null, .null, .null, .null, .null, .null, .int 0, .int 0, .null, .null, .null, .int 0, .int 0, .int 0, .int 0, .int 0, .int 0, .int 0, .null, .null, .null, .int 0, .null, .int 0, .null, .int 0, .int 0] := ⟨_, rfl⟩
  rw [← efs] at hP hD
  have hlen : fs0.length = 53 := by rw [efs]; rfl
  have hk_51 : fs0[51]? = some (.int 0) := by rw [efs]; rfl
  have hk_47 : fs0[47]? = some (.int 0) := by rw [efs]; rfl
  have hk_52 : fs0[52]? = some (.int 0) := by rw [efs]; rfl
  have hk_49 : fs0[49]? = some (.int 0) := by rw [efs]; rfl
  refine lv_aload_n hx hb px_d10_0 rfl (lv_at hl 0 rfl) ?_
  refine W.objInit hx hb hown (htw _ px_w248) (htw _ px_w1) (htw _ px_w0) rfl (by rw [hml]; exact hl.1) rfl px_d10_1 (Nat.le_of_ble_eq_true rfl) (Nat.le_of_ble_eq_true rfl) ?_
  refine W.eq (g2 := F0 m 4 ls []) rfl ?_
  refine lv_aload_n hx hb px_d10_4 rfl (lv_at hl 0 rfl) ?_
  refine va_new (ci := 9) (fs := [.null, .int 0, .int 0]) (C := "MatroidDeskModel$Num") (T := px_T9) (N := 3) hx hb htw px_in9 px_ty9 px_tyok9 hown (htw _ px_w249) (htw _ px_w150) (htw _ px_w149) hK hP hD hS hA rfl px_df9 (Nat.le_of_ble_eq_true rfl) (Nat.le_of_ble_eq_true rfl) px_d10_5 (fun q H hP hD hS => ?_)
  have hP : va_P (dC, dI) vwCl [(h0, .inr (8, fs0)), (q, .inr (9, [.null, .int 0, .int 0]))] H := hP
  have hD : va_D A [(h0, .inr (8, fs0)), (q, .inr (9, [.null, .int 0, .int 0]))] := hD
  refine W.widen (k := 1) (n := 3) (Nat.le_of_ble_eq_true rfl) (Nat.le_of_ble_eq_true rfl) ?_
  refine lv_dup hx hb px_d10_8 rfl ?_
  have hPc := hP.sub (ws' := [(q, .inr (9, [.null, .int 0, .int 0]))]) [1] rfl
  have hDc := hD.sub (ws' := [(q, .inr (9, [.null, .int 0, .int 0]))]) [1] (by decide) rfl
  have hKc := hK.sub (tys' := []) [] rfl
  have hFc := va_free (wc := [(q, .inr (9, [.null, .int 0, .int 0]))]) hD hS hA [1] rfl
  refine va_callv (va_runIN (As := []) (rest := [.ref q, .ref h0]) ⟨hx, hb, hml, hown, htw⟩ (px_Num_init l dC dI H.size q) ⟨(va_cnB 0 htw px_g8 rfl rfl rfl (hN.2.1 ("MatroidDeskModel", 152, px_y8, "MatroidDeskModel") (by decide)) (htw _ px_w149) (by decide +kernel) ⟨Nat.le_of_ble_eq_true rfl, Nat.le_of_ble_eq_true rfl⟩), rfl, (htw _ px_w237)⟩ ⟨fun a U g mk q => by obtain ⟨q0, q1, qP, qK, qD, qN⟩ := q; exact ⟨q0, q1, qP, va_K.moved (u := U) (U := U.calling g mk a) (Vm.Alike.refl U.vm) qK, qD, qN.same rfl⟩, fun U hU hW => ⟨rfl, by rw [hU], by rw [hU]; exact hPc, va_K.moved hW.alike hKc, hDc.weaken (fun _ _ _ _ => trivial), hN.warm hW⟩⟩ rfl rfl hl.1 rfl (lv_room (Nat.le_of_ble_eq_true rfl)) px_d10_9 ⟨(Nat.le_of_ble_eq_true rfl), (Nat.le_of_ble_eq_true rfl)⟩) hS (fun q _ h => hFc q h) hFc (fun u t H1 locs ht hvm hw_9 hB hz1 hk1 hS => ?_)
  obtain ⟨q_1, cA, hP1, hK1, hD1⟩ := hB
  rw [ht] at hP1
  have hK1 := va_K.moved hvm.symm hK1
  obtain ⟨hP, hD⟩ := va_join (wr := [(h0, .inr (8, fs0))]) (w1 := [(q, .inr (9, [.ref q_1, .int 0, .int 0])), (q_1, .inl (cA, 160, .inl (fun _ => 0)))]) hP hD [1] [0] rfl rfl (by decide) (by decide) hk1 hFc hP1 hD1
  have hK := hK.app (hK1.sub (tys' := [(cA, .int)]) [0] rfl)
  generalize H1 = H at hP hS ⊢
  have hP : va_P (dC, dI) vwCl [(h0, .inr (8, fs0)), (q, .inr (9, [.ref q_1, .int 0, .int 0])), (q_1, .inl (cA, 160, .inl (fun _ => 0)))] H := hP
  have hD : va_D A [(h0, .inr (8, fs0)), (q, .inr (9, [.ref q_1, .int 0, .int 0])), (q_1, .inl (cA, 160, .inl (fun _ => 0)))] := hD
  have hK : va_K (dC, dI) vwCl [(cA, .int)] s := hK
  refine W.widen (k := 2) (n := 163) (Nat.le_of_ble_eq_true rfl) (Nat.le_of_ble_eq_true rfl) ?_
  refine va_putF (D := (dC, dI)) (ci := 8) (v := .ref q) (ty := (.object "MatroidDeskModel$Num")) (C := "MatroidDeskModel") (T := px_T8) (N := 53) hx hb htw px_in8 px_ty8 px_tyok8 px_nm8 hown hK hP hD hS 0 rfl rfl 0 (by decide) (htw _ px_w250) (fun _ h9 => h9) rfl hin rfl (by decide +kernel) rfl rfl (by rw [hlen]; decide) px_d10_12 (fun H locs hP hD hS => ?_)
  have hP : va_P (dC, dI) vwCl [(h0, .inr (8, (fs0.set 0 (.ref q)))), (q, .inr (9, [.ref q_1, .int 0, .int 0])), (q_1, .inl (cA, 160, .inl (fun _ => 0)))] H := hP
  have hD : va_D A [(h0, .inr (8, (fs0.set 0 (.ref q)))), (q, .inr (9, [.ref q_1, .int 0, .int 0])), (q_1, .inl (cA, 160, .inl (fun _ => 0)))] := hD
  obtain ⟨fs1, efs⟩ : ∃ z : List Value, z = (fs0.set 0 (.ref q)) := ⟨_, rfl⟩
  rw [← efs] at hP hD
  have hk_51 : fs1[51]? = some (.int 0) := by rw [efs]; exact (px_sn (by decide)).trans hk_51
  have hk_47 : fs1[47]? = some (.int 0) := by rw [efs]; exact (px_sn (by decide)).trans hk_47
  have hk_52 : fs1[52]? = some (.int 0) := by rw [efs]; exact (px_sn (by decide)).trans hk_52
  have hk_49 : fs1[49]? = some (.int 0) := by rw [efs]; exact (px_sn (by decide)).trans hk_49
  have hlen : fs1.length = 53 := by rw [efs]; exact px_sl hlen
  clear efs
  have hP := hP.sub (ws' := [(h0, .inr (8, fs1))]) [0] rfl
  have hD := hD.sub (ws' := [(h0, .inr (8, fs1))]) [0] (by decide) rfl
  refine lv_aload_n hx hb px_d10_15 rfl (lv_at hl 0 rfl) ?_
  refine va_new (ci := 9) (fs := [.null, .int 0, .int 0]) (C := "MatroidDeskModel$Num") (T := px_T9) (N := 3) hx hb htw px_in9 px_ty9 px_tyok9 hown (htw _ px_w249) (htw _ px_w150) (htw _ px_w149) hK hP hD hS hA rfl px_df9 (Nat.le_of_ble_eq_true rfl) (Nat.le_of_ble_eq_true rfl) px_d10_16 (fun q_2 H hP hD hS => ?_)
  have hP : va_P (dC, dI) vwCl [(h0, .inr (8, fs1)), (q_2, .inr (9, [.null, .int 0, .int 0]))] H := hP
  have hD : va_D A [(h0, .inr (8, fs1)), (q_2, .inr (9, [.null, .int 0, .int 0]))] := hD
  refine W.widen (k := 3) (n := 166) (Nat.le_of_ble_eq_true rfl) (Nat.le_of_ble_eq_true rfl) ?_
  refine lv_dup hx hb px_d10_19 rfl ?_
  have hPc := hP.sub (ws' := [(q_2, .inr (9, [.null, .int 0, .int 0]))]) [1] rfl
  have hDc := hD.sub (ws' := [(q_2, .inr (9, [.null, .int 0, .int 0]))]) [1] (by decide) rfl
  have hKc := hK.sub (tys' := []) [] rfl
  have hFc := va_free (wc := [(q_2, .inr (9, [.null, .int 0, .int 0]))]) hD hS hA [1] rfl
  refine va_callv (va_runIN (As := []) (rest := [.ref q_2, .ref h0]) ⟨hx, hb, hml, hown, htw⟩ (px_Num_init l dC dI H.size q_2) ⟨(va_cnB 0 htw px_g8 rfl rfl rfl (hN.2.1 ("MatroidDeskModel", 152, px_y8, "MatroidDeskModel") (by decide)) (htw _ px_w149) (by decide +kernel) ⟨Nat.le_of_ble_eq_true rfl, Nat.le_of_ble_eq_true rfl⟩), rfl, (htw _ px_w237)⟩ ⟨fun a U g mk q => by obtain ⟨q0, q1, qP, qK, qD, qN⟩ := q; exact ⟨q0, q1, qP, va_K.moved (u := U) (U := U.calling g mk a) (Vm.Alike.refl U.vm) qK, qD, qN.same rfl⟩, fun U hU hW => ⟨rfl, by rw [hU], by rw [hU]; exact hPc, va_K.moved hW.alike hKc, hDc.weaken (fun _ _ _ _ => trivial), hN.warm hW⟩⟩ rfl rfl hl.1 rfl (lv_room (Nat.le_of_ble_eq_true rfl)) px_d10_20 ⟨(Nat.le_of_ble_eq_true rfl), (Nat.le_of_ble_eq_true rfl)⟩) hS (fun q _ h => hFc q h) hFc (fun u t H1 locs ht hvm hw_20 hB hz1 hk1 hS => ?_)
  obtain ⟨q_3, cA_1, hP1, hK1, hD1⟩ := hB
  rw [ht] at hP1
  have hK1 := va_K.moved hvm.symm hK1
  obtain ⟨hP, hD⟩ := va_join (wr := [(h0, .inr (8, fs1))]) (w1 := [(q_2, .inr (9, [.ref q_3, .int 0, .int 0])), (q_3, .inl (cA_1, 160, .inl (fun _ => 0)))]) hP hD [1] [0] rfl rfl (by decide) (by decide) hk1 hFc hP1 hD1
  have hK := hK.app (hK1.sub (tys' := [(cA_1, .int)]) [0] rfl)
  generalize H1 = H at hP hS ⊢
  have hP : va_P (dC, dI) vwCl [(h0, .inr (8, fs1)), (q_2, .inr (9, [.ref q_3, .int 0, .int 0])), (q_3, .inl (cA_1, 160, .inl (fun _ => 0)))] H := hP
  have hD : va_D A [(h0, .inr (8, fs1)), (q_2, .inr (9, [.ref q_3, .int 0, .int 0])), (q_3, .inl (cA_1, 160, .inl (fun _ => 0)))] := hD
  have hK : va_K (dC, dI) vwCl [(cA, .int), (cA_1, .int)] s := hK
  refine W.widen (k := 4) (n := 326) (Nat.le_of_ble_eq_true rfl) (Nat.le_of_ble_eq_true rfl) ?_
  refine va_putF (D := (dC, dI)) (ci := 8) (v := .ref q_2) (ty := (.object "MatroidDeskModel$Num")) (C := "MatroidDeskModel") (T := px_T8) (N := 53) hx hb htw px_in8 px_ty8 px_tyok8 px_nm8 hown hK hP hD hS 0 rfl rfl 1 (by decide) (htw _ px_w251) (fun _ h9 => h9) rfl hin rfl (by decide +kernel) rfl rfl (by rw [hlen]; decide) px_d10_23 (fun H locs hP hD hS => ?_)
  have hP : va_P (dC, dI) vwCl [(h0, .inr (8, (fs1.set 1 (.ref q_2)))), (q_2, .inr (9, [.ref q_3, .int 0, .int 0])), (q_3, .inl (cA_1, 160, .inl (fun _ => 0)))] H := hP
  have hD : va_D A [(h0, .inr (8, (fs1.set 1 (.ref q_2)))), (q_2, .inr (9, [.ref q_3, .int 0, .int 0])), (q_3, .inl (cA_1, 160, .inl (fun _ => 0)))] := hD
  obtain ⟨fs2, efs⟩ : ∃ z : List Value, z = (fs1.set 1 (.ref q_2)) := ⟨_, rfl⟩
  rw [← efs] at hP hD
  have hk_51 : fs2[51]? = some (.int 0) := by rw [efs]; exact (px_sn (by decide)).trans hk_51
  have hk_47 : fs2[47]? = some (.int 0) := by rw [efs]; exact (px_sn (by decide)).trans hk_47
  have hk_52 : fs2[52]? = some (.int 0) := by rw [efs]; exact (px_sn (by decide)).trans hk_52
  have hk_49 : fs2[49]? = some (.int 0) := by rw [efs]; exact (px_sn (by decide)).trans hk_49
  have hlen : fs2.length = 53 := by rw [efs]; exact px_sl hlen
  clear efs
  have hP := hP.sub (ws' := [(h0, .inr (8, fs2))]) [0] rfl
  have hD := hD.sub (ws' := [(h0, .inr (8, fs2))]) [0] (by decide) rfl
  refine lv_aload_n hx hb px_d10_26 rfl (lv_at hl 0 rfl) ?_
  refine va_new (ci := 9) (fs := [.null, .int 0, .int 0]) (C := "MatroidDeskModel$Num") (T := px_T9) (N := 3) hx hb htw px_in9 px_ty9 px_tyok9 hown (htw _ px_w249) (htw _ px_w150) (htw _ px_w149) hK hP hD hS hA rfl px_df9 (Nat.le_of_ble_eq_true rfl) (Nat.le_of_ble_eq_true rfl) px_d10_27 (fun q_4 H hP hD hS => ?_)
  have hP : va_P (dC, dI) vwCl [(h0, .inr (8, fs2)), (q_4, .inr (9, [.null, .int 0, .int 0]))] H := hP
  have hD : va_D A [(h0, .inr (8, fs2)), (q_4, .inr (9, [.null, .int 0, .int 0]))] := hD
  refine W.widen (k := 5) (n := 329) (Nat.le_of_ble_eq_true rfl) (Nat.le_of_ble_eq_true rfl) ?_
  refine lv_dup hx hb px_d10_30 rfl ?_
  have hPc := hP.sub (ws' := [(q_4, .inr (9, [.null, .int 0, .int 0]))]) [1] rfl
  have hDc := hD.sub (ws' := [(q_4, .inr (9, [.null, .int 0, .int 0]))]) [1] (by decide) rfl
  have hKc := hK.sub (tys' := []) [] rfl
  have hFc := va_free (wc := [(q_4, .inr (9, [.null, .int 0, .int 0]))]) hD hS hA [1] rfl
  refine va_callv (va_runIN (As := []) (rest := [.ref q_4, .ref h0]) ⟨hx, hb, hml, hown, htw⟩ (px_Num_init l dC dI H.size q_4) ⟨(va_cnB 0 htw px_g8 rfl rfl rfl (hN.2.1 ("MatroidDeskModel", 152, px_y8, "MatroidDeskModel") (by decide)) (htw _ px_w149) (by decide +kernel) ⟨Nat.le_of_ble_eq_true rfl, Nat.le_of_ble_eq_true rfl⟩), rfl, (htw _ px_w237)⟩ ⟨fun a U g mk q => by obtain ⟨q0, q1, qP, qK, qD, qN⟩ := q; exact ⟨q0, q1, qP, va_K.moved (u := U) (U := U.calling g mk a) (Vm.Alike.refl U.vm) qK, qD, qN.same rfl⟩, fun U hU hW => ⟨rfl, by rw [hU], by rw [hU]; exact hPc, va_K.moved hW.alike hKc, hDc.weaken (fun _ _ _ _ => trivial), hN.warm hW⟩⟩ rfl rfl hl.1 rfl (lv_room (Nat.le_of_ble_eq_true rfl)) px_d10_31 ⟨(Nat.le_of_ble_eq_true rfl), (Nat.le_of_ble_eq_true rfl)⟩) hS (fun q _ h => hFc q h) hFc (fun u t H1 locs ht hvm hw_31 hB hz1 hk1 hS => ?_)
  obtain ⟨q_5, cA_2, hP1, hK1, hD1⟩ := hB
  rw [ht] at hP1
  have hK1 := va_K.moved hvm.symm hK1
  obtain ⟨hP, hD⟩ := va_join (wr := [(h0, .inr (8, fs2))]) (w1 := [(q_4, .inr (9, [.ref q_5, .int 0, .int 0])), (q_5, .inl (cA_2, 160, .inl (fun _ => 0)))]) hP hD [1] [0] rfl rfl (by decide) (by decide) hk1 hFc hP1 hD1
  have hK := hK.app (hK1.sub (tys' := [(cA_2, .int)]) [0] rfl)
  generalize H1 = H at hP hS ⊢
  have hP : va_P (dC, dI) vwCl [(h0, .inr (8, fs2)), (q_4, .inr (9, [.ref q_5, .int 0, .int 0])), (q_5, .inl (cA_2, 160, .inl (fun _ => 0)))] H := hP
  have hD : va_D A [(h0, .inr (8, fs2)), (q_4, .inr (9, [.ref q_5, .int 0, .int 0])), (q_5, .inl (cA_2, 160, .inl (fun _ => 0)))] := hD
  have hK : va_K (dC, dI) vwCl [(cA, .int), (cA_1, .int), (cA_2, .int)] s := hK
  refine W.widen (k := 6) (n := 489) (Nat.le_of_ble_eq_true rfl) (Nat.le_of_ble_eq_true rfl) ?_
  refine va_putF (D := (dC, dI)) (ci := 8) (v := .ref q_4) (ty := (.object "MatroidDeskModel$Num")) (C := "MatroidDeskModel") (T := px_T8) (N := 53) hx hb htw px_in8 px_ty8 px_tyok8 px_nm8 hown hK hP hD hS 0 rfl rfl 2 (by decide) (htw _ px_w252) (fun _ h9 => h9) rfl hin rfl (by decide +kernel) rfl rfl (by rw [hlen]; decide) px_d10_34 (fun H locs hP hD hS => ?_)
  have hP : va_P (dC, dI) vwCl [(h0, .inr (8, (fs2.set 2 (.ref q_4)))), (q_4, .inr (9, [.ref q_5, .int 0, .int 0])), (q_5, .inl (cA_2, 160, .inl (fun _ => 0)))] H := hP
  have hD : va_D A [(h0, .inr (8, (fs2.set 2 (.ref q_4)))), (q_4, .inr (9, [.ref q_5, .int 0, .int 0])), (q_5, .inl (cA_2, 160, .inl (fun _ => 0)))] := hD
  obtain ⟨fs3, efs⟩ : ∃ z : List Value, z = (fs2.set 2 (.ref q_4)) := ⟨_, rfl⟩
  rw [← efs] at hP hD
  have hk_51 : fs3[51]? = some (.int 0) := by rw [efs]; exact (px_sn (by decide)).trans hk_51
  have hk_47 : fs3[47]? = some (.int 0) := by rw [efs]; exact (px_sn (by decide)).trans hk_47
  have hk_52 : fs3[52]? = some (.int 0) := by rw [efs]; exact (px_sn (by decide)).trans hk_52
  have hk_49 : fs3[49]? = some (.int 0) := by rw [efs]; exact (px_sn (by decide)).trans hk_49
  have hlen : fs3.length = 53 := by rw [efs]; exact px_sl hlen
  clear efs
  have hP := hP.sub (ws' := [(h0, .inr (8, fs3))]) [0] rfl
  have hD := hD.sub (ws' := [(h0, .inr (8, fs3))]) [0] (by decide) rfl
  refine lv_aload_n hx hb px_d10_37 rfl (lv_at hl 0 rfl) ?_
  refine va_new (ci := 9) (fs := [.null, .int 0, .int 0]) (C := "MatroidDeskModel$Num") (T := px_T9) (N := 3) hx hb htw px_in9 px_ty9 px_tyok9 hown (htw _ px_w249) (htw _ px_w150) (htw _ px_w149) hK hP hD hS hA rfl px_df9 (Nat.le_of_ble_eq_true rfl) (Nat.le_of_ble_eq_true rfl) px_d10_38 (fun q_6 H hP hD hS => ?_)
  have hP : va_P (dC, dI) vwCl [(h0, .inr (8, fs3)), (q_6, .inr (9, [.null, .int 0, .int 0]))] H := hP
  have hD : va_D A [(h0, .inr (8, fs3)), (q_6, .inr (9, [.null, .int 0, .int 0]))] := hD
  refine W.widen (k := 7) (n := 492) (Nat.le_of_ble_eq_true rfl) (Nat.le_of_ble_eq_true rfl) ?_
  refine lv_dup hx hb px_d10_41 rfl ?_
  have hPc := hP.sub (ws' := [(q_6, .inr (9, [.null, .int 0, .int 0]))]) [1] rfl
  have hDc := hD.sub (ws' := [(q_6, .inr (9, [.null, .int 0, .int 0]))]) [1] (by decide) rfl
  have hKc := hK.sub (tys' := []) [] rfl
  have hFc := va_free (wc := [(q_6, .inr (9, [.null, .int 0, .int 0]))]) hD hS hA [1] rfl
  refine va_callv (va_runIN (As := []) (rest := [.ref q_6, .ref h0]) ⟨hx, hb, hml, hown, htw⟩ (px_Num_init l dC dI H.size q_6) ⟨(va_cnB 0 htw px_g8 rfl rfl rfl (hN.2.1 ("MatroidDeskModel", 152, px_y8, "MatroidDeskModel") (by decide)) (htw _ px_w149) (by decide +kernel) ⟨Nat.le_of_ble_eq_true rfl, Nat.le_of_ble_eq_true rfl⟩), rfl, (htw _ px_w237)⟩ ⟨fun a U g mk q => by obtain ⟨q0, q1, qP, qK, qD, qN⟩ := q; exact ⟨q0, q1, qP, va_K.moved (u := U) (U := U.calling g mk a) (Vm.Alike.refl U.vm) qK, qD, qN.same rfl⟩, fun U hU hW => ⟨rfl, by rw [hU], by rw [hU]; exact hPc, va_K.moved hW.alike hKc, hDc.weaken (fun _ _ _ _ => trivial), hN.warm hW⟩⟩ rfl rfl hl.1 rfl (lv_room (Nat.le_of_ble_eq_true rfl)) px_d10_42 ⟨(Nat.le_of_ble_eq_true rfl), (Nat.le_of_ble_eq_true rfl)⟩) hS (fun q _ h => hFc q h) hFc (fun u t H1 locs ht hvm hw_42 hB hz1 hk1 hS => ?_)
  obtain ⟨q_7, cA_3, hP1, hK1, hD1⟩ := hB
  rw [ht] at hP1
  have hK1 := va_K.moved hvm.symm hK1
  obtain ⟨hP, hD⟩ := va_join (wr := [(h0, .inr (8, fs3))]) (w1 := [(q_6, .inr (9, [.ref q_7, .int 0, .int 0])), (q_7, .inl (cA_3, 160, .inl (fun _ => 0)))]) hP hD [1] [0] rfl rfl (by decide) (by decide) hk1 hFc hP1 hD1
  have hK := hK.app (hK1.sub (tys' := [(cA_3, .int)]) [0] rfl)
  generalize H1 = H at hP hS ⊢
  have hP : va_P (dC, dI) vwCl [(h0, .inr (8, fs3)), (q_6, .inr (9, [.ref q_7, .int 0, .int 0])), (q_7, .inl (cA_3, 160, .inl (fun _ => 0)))] H := hP
  have hD : va_D A [(h0, .inr (8, fs3)), (q_6, .inr (9, [.ref q_7, .int 0, .int 0])), (q_7, .inl (cA_3, 160, .inl (fun _ => 0)))] := hD
  have hK : va_K (dC, dI) vwCl [(cA, .int), (cA_1, .int), (cA_2, .int), (cA_3, .int)] s := hK
  refine W.widen (k := 8) (n := 652) (Nat.le_of_ble_eq_true rfl) (Nat.le_of_ble_eq_true rfl) ?_
  refine va_putF (D := (dC, dI)) (ci := 8) (v := .ref q_6) (ty := (.object "MatroidDeskModel$Num")) (C := "MatroidDeskModel") (T := px_T8) (N := 53) hx hb htw px_in8 px_ty8 px_tyok8 px_nm8 hown hK hP hD hS 0 rfl rfl 3 (by decide) (htw _ px_w253) (fun _ h9 => h9) rfl hin rfl (by decide +kernel) rfl rfl (by rw [hlen]; decide) px_d10_45 (fun H locs hP hD hS => ?_)
  have hP : va_P (dC, dI) vwCl [(h0, .inr (8, (fs3.set 3 (.ref q_6)))), (q_6, .inr (9, [.ref q_7, .int 0, .int 0])), (q_7, .inl (cA_3, 160, .inl (fun _ => 0)))] H := hP
  have hD : va_D A [(h0, .inr (8, (fs3.set 3 (.ref q_6)))), (q_6, .inr (9, [.ref q_7, .int 0, .int 0])), (q_7, .inl (cA_3, 160, .inl (fun _ => 0)))] := hD
  obtain ⟨fs4, efs⟩ : ∃ z : List Value, z = (fs3.set 3 (.ref q_6)) := ⟨_, rfl⟩
  rw [← efs] at hP hD
  have hk_51 : fs4[51]? = some (.int 0) := by rw [efs]; exact (px_sn (by decide)).trans hk_51
  have hk_47 : fs4[47]? = some (.int 0) := by rw [efs]; exact (px_sn (by decide)).trans hk_47
  have hk_52 : fs4[52]? = some (.int 0) := by rw [efs]; exact (px_sn (by decide)).trans hk_52
  have hk_49 : fs4[49]? = some (.int 0) := by rw [efs]; exact (px_sn (by decide)).trans hk_49
  have hlen : fs4.length = 53 := by rw [efs]; exact px_sl hlen
  clear efs
  have hP := hP.sub (ws' := [(h0, .inr (8, fs4))]) [0] rfl
  have hD := hD.sub (ws' := [(h0, .inr (8, fs4))]) [0] (by decide) rfl
  refine lv_aload_n hx hb px_d10_48 rfl (lv_at hl 0 rfl) ?_
  refine va_new (ci := 9) (fs := [.null, .int 0, .int 0]) (C := "MatroidDeskModel$Num") (T := px_T9) (N := 3) hx hb htw px_in9 px_ty9 px_tyok9 hown (htw _ px_w249) (htw _ px_w150) (htw _ px_w149) hK hP hD hS hA rfl px_df9 (Nat.le_of_ble_eq_true rfl) (Nat.le_of_ble_eq_true rfl) px_d10_49 (fun q_8 H hP hD hS => ?_)
  have hP : va_P (dC, dI) vwCl [(h0, .inr (8, fs4)), (q_8, .inr (9, [.null, .int 0, .int 0]))] H := hP
  have hD : va_D A [(h0, .inr (8, fs4)), (q_8, .inr (9, [.null, .int 0, .int 0]))] := hD
  refine W.widen (k := 9) (n := 655) (Nat.le_of_ble_eq_true rfl) (Nat.le_of_ble_eq_true rfl) ?_
  refine lv_dup hx hb px_d10_52 rfl ?_
  have hPc := hP.sub (ws' := [(q_8, .inr (9, [.null, .int 0, .int 0]))]) [1] rfl
  have hDc := hD.sub (ws' := [(q_8, .inr (9, [.null, .int 0, .int 0]))]) [1] (by decide) rfl
  have hKc := hK.sub (tys' := []) [] rfl
  have hFc := va_free (wc := [(q_8, .inr (9, [.null, .int 0, .int 0]))]) hD hS hA [1] rfl
  refine va_callv (va_runIN (As := []) (rest := [.ref q_8, .ref h0]) ⟨hx, hb, hml, hown, htw⟩ (px_Num_init l dC dI H.size q_8) ⟨(va_cnB 0 htw px_g8 rfl rfl rfl (hN.2.1 ("MatroidDeskModel", 152, px_y8, "MatroidDeskModel") (by decide)) (htw _ px_w149) (by decide +kernel) ⟨Nat.le_of_ble_eq_true rfl, Nat.le_of_ble_eq_true rfl⟩), rfl, (htw _ px_w237)⟩ ⟨fun a U g mk q => by obtain ⟨q0, q1, qP, qK, qD, qN⟩ := q; exact ⟨q0, q1, qP, va_K.moved (u := U) (U := U.calling g mk a) (Vm.Alike.refl U.vm) qK, qD, qN.same rfl⟩, fun U hU hW => ⟨rfl, by rw [hU], by rw [hU]; exact hPc, va_K.moved hW.alike hKc, hDc.weaken (fun _ _ _ _ => trivial), hN.warm hW⟩⟩ rfl rfl hl.1 rfl (lv_room (Nat.le_of_ble_eq_true rfl)) px_d10_53 ⟨(Nat.le_of_ble_eq_true rfl), (Nat.le_of_ble_eq_true rfl)⟩) hS (fun q _ h => hFc q h) hFc (fun u t H1 locs ht hvm hw_53 hB hz1 hk1 hS => ?_)
  obtain ⟨q_9, cA_4, hP1, hK1, hD1⟩ := hB
  rw [ht] at hP1
  have hK1 := va_K.moved hvm.symm hK1
  obtain ⟨hP, hD⟩ := va_join (wr := [(h0, .inr (8, fs4))]) (w1 := [(q_8, .inr (9, [.ref q_9, .int 0, .int 0])), (q_9, .inl (cA_4, 160, .inl (fun _ => 0)))]) hP hD [1] [0] rfl rfl (by decide) (by decide) hk1 hFc hP1 hD1
  have hK := hK.app (hK1.sub (tys' := [(cA_4, .int)]) [0] rfl)
  generalize H1 = H at hP hS ⊢
  have hP : va_P (dC, dI) vwCl [(h0, .inr (8, fs4)), (q_8, .inr (9, [.ref q_9, .int 0, .int 0])), (q_9, .inl (cA_4, 160, .inl (fun _ => 0)))] H := hP
  have hD : va_D A [(h0, .inr (8, fs4)), (q_8, .inr (9, [.ref q_9, .int 0, .int 0])), (q_9, .inl (cA_4, 160, .inl (fun _ => 0)))] := hD
  have hK : va_K (dC, dI) vwCl [(cA, .int), (cA_1, .int), (cA_2, .int), (cA_3, .int), (cA_4, .int)] s := hK
  refine W.widen (k := 10) (n := 815) (Nat.le_of_ble_eq_true rfl) (Nat.le_of_ble_eq_true rfl) ?_
  refine va_putF (D := (dC, dI)) (ci := 8) (v := .ref q_8) (ty := (.object "MatroidDeskModel$Num")) (C := "MatroidDeskModel") (T := px_T8) (N := 53) hx hb htw px_in8 px_ty8 px_tyok8 px_nm8 hown hK hP hD hS 0 rfl rfl 4 (by decide) (htw _ px_w254) (fun _ h9 => h9) rfl hin rfl (by decide +kernel) rfl rfl (by rw [hlen]; decide) px_d10_56 (fun H locs hP hD hS => ?_)
  have hP : va_P (dC, dI) vwCl [(h0, .inr (8, (fs4.set 4 (.ref q_8)))), (q_8, .inr (9, [.ref q_9, .int 0, .int 0])), (q_9, .inl (cA_4, 160, .inl (fun _ => 0)))] H := hP
  have hD : va_D A [(h0, .inr (8, (fs4.set 4 (.ref q_8)))), (q_8, .inr (9, [.ref q_9, .int 0, .int 0])), (q_9, .inl (cA_4, 160, .inl (fun _ => 0)))] := hD
  obtain ⟨fs5, efs⟩ : ∃ z : List Value, z = (fs4.set 4 (.ref q_8)) := ⟨_, rfl⟩
  rw [← efs] at hP hD
  have hk_51 : fs5[51]? = some (.int 0) := by rw [efs]; exact (px_sn (by decide)).trans hk_51
  have hk_47 : fs5[47]? = some (.int 0) := by rw [efs]; exact (px_sn (by decide)).trans hk_47
  have hk_52 : fs5[52]? = some (.int 0) := by rw [efs]; exact (px_sn (by decide)).trans hk_52
  have hk_49 : fs5[49]? = some (.int 0) := by rw [efs]; exact (px_sn (by decide)).trans hk_49
  have hlen : fs5.length = 53 := by rw [efs]; exact px_sl hlen
  clear efs
  have hP := hP.sub (ws' := [(h0, .inr (8, fs5))]) [0] rfl
  have hD := hD.sub (ws' := [(h0, .inr (8, fs5))]) [0] (by decide) rfl
  refine lv_aload_n hx hb px_d10_59 rfl (lv_at hl 0 rfl) ?_
  refine va_new (ci := 9) (fs := [.null, .int 0, .int 0]) (C := "MatroidDeskModel$Num") (T := px_T9) (N := 3) hx hb htw px_in9 px_ty9 px_tyok9 hown (htw _ px_w249) (htw _ px_w150) (htw _ px_w149) hK hP hD hS hA rfl px_df9 (Nat.le_of_ble_eq_true rfl) (Nat.le_of_ble_eq_true rfl) px_d10_60 (fun q_10 H hP hD hS => ?_)
  have hP : va_P (dC, dI) vwCl [(h0, .inr (8, fs5)), (q_10, .inr (9, [.null, .int 0, .int 0]))] H := hP
  have hD : va_D A [(h0, .inr (8, fs5)), (q_10, .inr (9, [.null, .int 0, .int 0]))] := hD
  refine W.widen (k := 11) (n := 818) (Nat.le_of_ble_eq_true rfl) (Nat.le_of_ble_eq_true rfl) ?_
  refine lv_dup hx hb px_d10_63 rfl ?_
  have hPc := hP.sub (ws' := [(q_10, .inr (9, [.null, .int 0, .int 0]))]) [1] rfl
  have hDc := hD.sub (ws' := [(q_10, .inr (9, [.null, .int 0, .int 0]))]) [1] (by decide) rfl
  have hKc := hK.sub (tys' := []) [] rfl
  have hFc := va_free (wc := [(q_10, .inr (9, [.null, .int 0, .int 0]))]) hD hS hA [1] rfl
  refine va_callv (va_runIN (As := []) (rest := [.ref q_10, .ref h0]) ⟨hx, hb, hml, hown, htw⟩ (px_Num_init l dC dI H.size q_10) ⟨(va_cnB 0 htw px_g8 rfl rfl rfl (hN.2.1 ("MatroidDeskModel", 152, px_y8, "MatroidDeskModel") (by decide)) (htw _ px_w149) (by decide +kernel) ⟨Nat.le_of_ble_eq_true rfl, Nat.le_of_ble_eq_true rfl⟩), rfl, (htw _ px_w237)⟩ ⟨fun a U g mk q => by obtain ⟨q0, q1, qP, qK, qD, qN⟩ := q; exact ⟨q0, q1, qP, va_K.moved (u := U) (U := U.calling g mk a) (Vm.Alike.refl U.vm) qK, qD, qN.same rfl⟩, fun U hU hW => ⟨rfl, by rw [hU], by rw [hU]; exact hPc, va_K.moved hW.alike hKc, hDc.weaken (fun _ _ _ _ => trivial), hN.warm hW⟩⟩ rfl rfl hl.1 rfl (lv_room (Nat.le_of_ble_eq_true rfl)) px_d10_64 ⟨(Nat.le_of_ble_eq_true rfl), (Nat.le_of_ble_eq_true rfl)⟩) hS (fun q _ h => hFc q h) hFc (fun u t H1 locs ht hvm hw_64 hB hz1 hk1 hS => ?_)
  obtain ⟨q_11, cA_5, hP1, hK1, hD1⟩ := hB
  rw [ht] at hP1
  have hK1 := va_K.moved hvm.symm hK1
  obtain ⟨hP, hD⟩ := va_join (wr := [(h0, .inr (8, fs5))]) (w1 := [(q_10, .inr (9, [.ref q_11, .int 0, .int 0])), (q_11, .inl (cA_5, 160, .inl (fun _ => 0)))]) hP hD [1] [0] rfl rfl (by decide) (by decide) hk1 hFc hP1 hD1
  have hK := hK.app (hK1.sub (tys' := [(cA_5, .int)]) [0] rfl)
  generalize H1 = H at hP hS ⊢
  have hP : va_P (dC, dI) vwCl [(h0, .inr (8, fs5)), (q_10, .inr (9, [.ref q_11, .int 0, .int 0])), (q_11, .inl (cA_5, 160, .inl (fun _ => 0)))] H := hP
  have hD : va_D A [(h0, .inr (8, fs5)), (q_10, .inr (9, [.ref q_11, .int 0, .int 0])), (q_11, .inl (cA_5, 160, .inl (fun _ => 0)))] := hD
  have hK : va_K (dC, dI) vwCl [(cA, .int), (cA_1, .int), (cA_2, .int), (cA_3, .int), (cA_4, .int), (cA_5, .int)] s := hK
  refine W.widen (k := 12) (n := 978) (Nat.le_of_ble_eq_true rfl) (Nat.le_of_ble_eq_true rfl) ?_
  refine va_putF (D := (dC, dI)) (ci := 8) (v := .ref q_10) (ty := (.object "MatroidDeskModel$Num")) (C := "MatroidDeskModel") (T := px_T8) (N := 53) hx hb htw px_in8 px_ty8 px_tyok8 px_nm8 hown hK hP hD hS 0 rfl rfl 5 (by decide) (htw _ px_w255) (fun _ h9 => h9) rfl hin rfl (by decide +kernel) rfl rfl (by rw [hlen]; decide) px_d10_67 (fun H locs hP hD hS => ?_)
  have hP : va_P (dC, dI) vwCl [(h0, .inr (8, (fs5.set 5 (.ref q_10)))), (q_10, .inr (9, [.ref q_11, .int 0, .int 0])), (q_11, .inl (cA_5, 160, .inl (fun _ => 0)))] H := hP
  have hD : va_D A [(h0, .inr (8, (fs5.set 5 (.ref q_10)))), (q_10, .inr (9, [.ref q_11, .int 0, .int 0])), (q_11, .inl (cA_5, 160, .inl (fun _ => 0)))] := hD
  obtain ⟨fs6, efs⟩ : ∃ z : List Value, z = (fs5.set 5 (.ref q_10)) := ⟨_, rfl⟩
  rw [← efs] at hP hD
  have hk_51 : fs6[51]? = some (.int 0) := by rw [efs]; exact (px_sn (by decide)).trans hk_51
  have hk_47 : fs6[47]? = some (.int 0) := by rw [efs]; exact (px_sn (by decide)).trans hk_47
  have hk_52 : fs6[52]? = some (.int 0) := by rw [efs]; exact (px_sn (by decide)).trans hk_52
  have hk_49 : fs6[49]? = some (.int 0) := by rw [efs]; exact (px_sn (by decide)).trans hk_49
  have hlen : fs6.length = 53 := by rw [efs]; exact px_sl hlen
  clear efs
  have hP := hP.sub (ws' := [(h0, .inr (8, fs6))]) [0] rfl
  have hD := hD.sub (ws' := [(h0, .inr (8, fs6))]) [0] (by decide) rfl
  refine lv_aload_n hx hb px_d10_70 rfl (lv_at hl 0 rfl) ?_
  refine va_new (ci := 9) (fs := [.null, .int 0, .int 0]) (C := "MatroidDeskModel$Num") (T := px_T9) (N := 3) hx hb htw px_in9 px_ty9 px_tyok9 hown (htw _ px_w249) (htw _ px_w150) (htw _ px_w149) hK hP hD hS hA rfl px_df9 (Nat.le_of_ble_eq_true rfl) (Nat.le_of_ble_eq_true rfl) px_d10_71 (fun q_12 H hP hD hS => ?_)
  have hP : va_P (dC, dI) vwCl [(h0, .inr (8, fs6)), (q_12, .inr (9, [.null, .int 0, .int 0]))] H := hP
  have hD : va_D A [(h0, .inr (8, fs6)), (q_12, .inr (9, [.null, .int 0, .int 0]))] := hD
  refine W.widen (k := 13) (n := 981) (Nat.le_of_ble_eq_true rfl) (Nat.le_of_ble_eq_true rfl) ?_
  refine lv_dup hx hb px_d10_74 rfl ?_
  have hPc := hP.sub (ws' := [(q_12, .inr (9, [.null, .int 0, .int 0]))]) [1] rfl
  have hDc := hD.sub (ws' := [(q_12, .inr (9, [.null, .int 0, .int 0]))]) [1] (by decide) rfl
  have hKc := hK.sub (tys' := []) [] rfl
  have hFc := va_free (wc := [(q_12, .inr (9, [.null, .int 0, .int 0]))]) hD hS hA [1] rfl
  refine va_callv (va_runIN (As := []) (rest := [.ref q_12, .ref h0]) ⟨hx, hb, hml, hown, htw⟩ (px_Num_init l dC dI H.size q_12) ⟨(va_cnB 0 htw px_g8 rfl rfl rfl (hN.2.1 ("MatroidDeskModel", 152, px_y8, "MatroidDeskModel") (by decide)) (htw _ px_w149) (by decide +kernel) ⟨Nat.le_of_ble_eq_true rfl, Nat.le_of_ble_eq_true rfl⟩), rfl, (htw _ px_w237)⟩ ⟨fun a U g mk q => by obtain ⟨q0, q1, qP, qK, qD, qN⟩ := q; exact ⟨q0, q1, qP, va_K.moved (u := U) (U := U.calling g mk a) (Vm.Alike.refl U.vm) qK, qD, qN.same rfl⟩, fun U hU hW => ⟨rfl, by rw [hU], by rw [hU]; exact hPc, va_K.moved hW.alike hKc, hDc.weaken (fun _ _ _ _ => trivial), hN.warm hW⟩⟩ rfl rfl hl.1 rfl (lv_room (Nat.le_of_ble_eq_true rfl)) px_d10_75 ⟨(Nat.le_of_ble_eq_true rfl), (Nat.le_of_ble_eq_true rfl)⟩) hS (fun q _ h => hFc q h) hFc (fun u t H1 locs ht hvm hw_75 hB hz1 hk1 hS => ?_)
  obtain ⟨q_13, cA_6, hP1, hK1, hD1⟩ := hB
  rw [ht] at hP1
  have hK1 := va_K.moved hvm.symm hK1
  obtain ⟨hP, hD⟩ := va_join (wr := [(h0, .inr (8, fs6))]) (w1 := [(q_12, .inr (9, [.ref q_13, .int 0, .int 0])), (q_13, .inl (cA_6, 160, .inl (fun _ => 0)))]) hP hD [1] [0] rfl rfl (by decide) (by decide) hk1 hFc hP1 hD1
  have hK := hK.app (hK1.sub (tys' := [(cA_6, .int)]) [0] rfl)
  generalize H1 = H at hP hS ⊢
  have hP : va_P (dC, dI) vwCl [(h0, .inr (8, fs6)), (q_12, .inr (9, [.ref q_13, .int 0, .int 0])), (q_13, .inl (cA_6, 160, .inl (fun _ => 0)))] H := hP
  have hD : va_D A [(h0, .inr (8, fs6)), (q_12, .inr (9, [.ref q_13, .int 0, .int 0])), (q_13, .inl (cA_6, 160, .inl (fun _ => 0)))] := hD
  have hK : va_K (dC, dI) vwCl [(cA, .int), (cA_1, .int), (cA_2, .int), (cA_3, .int), (cA_4, .int), (cA_5, .int), (cA_6, .int)] s := hK
  refine W.widen (k := 14) (n := 1141) (Nat.le_of_ble_eq_true rfl) (Nat.le_of_ble_eq_true rfl) ?_
  refine va_putF (D := (dC, dI)) (ci := 8) (v := .ref q_12) (ty := (.object "MatroidDeskModel$Num")) (C := "MatroidDeskModel") (T := px_T8) (N := 53) hx hb htw px_in8 px_ty8 px_tyok8 px_nm8 hown hK hP hD hS 0 rfl rfl 6 (by decide) (htw _ px_w256) (fun _ h9 => h9) rfl hin rfl (by decide +kernel) rfl rfl (by rw [hlen]; decide) px_d10_78 (fun H locs hP hD hS => ?_)
  have hP : va_P (dC, dI) vwCl [(h0, .inr (8, (fs6.set 6 (.ref q_12)))), (q_12, .inr (9, [.ref q_13, .int 0, .int 0])), (q_13, .inl (cA_6, 160, .inl (fun _ => 0)))] H := hP
  have hD : va_D A [(h0, .inr (8, (fs6.set 6 (.ref q_12)))), (q_12, .inr (9, [.ref q_13, .int 0, .int 0])), (q_13, .inl (cA_6, 160, .inl (fun _ => 0)))] := hD
  obtain ⟨fs7, efs⟩ : ∃ z : List Value, z = (fs6.set 6 (.ref q_12)) := ⟨_, rfl⟩
  rw [← efs] at hP hD
  have hk_51 : fs7[51]? = some (.int 0) := by rw [efs]; exact (px_sn (by decide)).trans hk_51
  have hk_47 : fs7[47]? = some (.int 0) := by rw [efs]; exact (px_sn (by decide)).trans hk_47
  have hk_52 : fs7[52]? = some (.int 0) := by rw [efs]; exact (px_sn (by decide)).trans hk_52
  have hk_49 : fs7[49]? = some (.int 0) := by rw [efs]; exact (px_sn (by decide)).trans hk_49
  have hlen : fs7.length = 53 := by rw [efs]; exact px_sl hlen
  clear efs
  have hP := hP.sub (ws' := [(h0, .inr (8, fs7))]) [0] rfl
  have hD := hD.sub (ws' := [(h0, .inr (8, fs7))]) [0] (by decide) rfl
  refine lv_aload_n hx hb px_d10_81 rfl (lv_at hl 0 rfl) ?_
  refine va_new (ci := 9) (fs := [.null, .int 0, .int 0]) (C := "MatroidDeskModel$Num") (T := px_T9) (N := 3) hx hb htw px_in9 px_ty9 px_tyok9 hown (htw _ px_w249) (htw _ px_w150) (htw _ px_w149) hK hP hD hS hA rfl px_df9 (Nat.le_of_ble_eq_true rfl) (Nat.le_of_ble_eq_true rfl) px_d10_82 (fun q_14 H hP hD hS => ?_)
  have hP : va_P (dC, dI) vwCl [(h0, .inr (8, fs7)), (q_14, .inr (9, [.null, .int 0, .int 0]))] H := hP
  have hD : va_D A [(h0, .inr (8, fs7)), (q_14, .inr (9, [.null, .int 0, .int 0]))] := hD
  refine W.widen (k := 15) (n := 1144) (Nat.le_of_ble_eq_true rfl) (Nat.le_of_ble_eq_true rfl) ?_
  refine lv_dup hx hb px_d10_85 rfl ?_
  have hPc := hP.sub (ws' := [(q_14, .inr (9, [.null, .int 0, .int 0]))]) [1] rfl
  have hDc := hD.sub (ws' := [(q_14, .inr (9, [.null, .int 0, .int 0]))]) [1] (by decide) rfl
  have hKc := hK.sub (tys' := []) [] rfl
  have hFc := va_free (wc := [(q_14, .inr (9, [.null, .int 0, .int 0]))]) hD hS hA [1] rfl
  refine va_callv (va_runIN (As := []) (rest := [.ref q_14, .ref h0]) ⟨hx, hb, hml, hown, htw⟩ (px_Num_init l dC dI H.size q_14) ⟨(va_cnB 0 htw px_g8 rfl rfl rfl (hN.2.1 ("MatroidDeskModel", 152, px_y8, "MatroidDeskModel") (by decide)) (htw _ px_w149) (by decide +kernel) ⟨Nat.le_of_ble_eq_true rfl, Nat.le_of_ble_eq_true rfl⟩), rfl, (htw _ px_w237)⟩ ⟨fun a U g mk q => by obtain ⟨q0, q1, qP, qK, qD, qN⟩ := q; exact ⟨q0, q1, qP, va_K.moved (u := U) (U := U.calling g mk a) (Vm.Alike.refl U.vm) qK, qD, qN.same rfl⟩, fun U hU hW => ⟨rfl, by rw [hU], by rw [hU]; exact hPc, va_K.moved hW.alike hKc, hDc.weaken (fun _ _ _ _ => trivial), hN.warm hW⟩⟩ rfl rfl hl.1 rfl (lv_room (Nat.le_of_ble_eq_true rfl)) px_d10_86 ⟨(Nat.le_of_ble_eq_true rfl), (Nat.le_of_ble_eq_true rfl)⟩) hS (fun q _ h => hFc q h) hFc (fun u t H1 locs ht hvm hw_86 hB hz1 hk1 hS => ?_)
  obtain ⟨q_15, cA_7, hP1, hK1, hD1⟩ := hB
  rw [ht] at hP1
  have hK1 := va_K.moved hvm.symm hK1
  obtain ⟨hP, hD⟩ := va_join (wr := [(h0, .inr (8, fs7))]) (w1 := [(q_14, .inr (9, [.ref q_15, .int 0, .int 0])), (q_15, .inl (cA_7, 160, .inl (fun _ => 0)))]) hP hD [1] [0] rfl rfl (by decide) (by decide) hk1 hFc hP1 hD1
  have hK := hK.app (hK1.sub (tys' := [(cA_7, .int)]) [0] rfl)
  generalize H1 = H at hP hS ⊢
  have hP : va_P (dC, dI) vwCl [(h0, .inr (8, fs7)), (q_14, .inr (9, [.ref q_15, .int 0, .int 0])), (q_15, .inl (cA_7, 160, .inl (fun _ => 0)))] H := hP
  have hD : va_D A [(h0, .inr (8, fs7)), (q_14, .inr (9, [.ref q_15, .int 0, .int 0])), (q_15, .inl (cA_7, 160, .inl (fun _ => 0)))] := hD
  have hK : va_K (dC, dI) vwCl [(cA, .int), (cA_1, .int), (cA_2, .int), (cA_3, .int), (cA_4, .int), (cA_5, .int), (cA_6, .int), (cA_7, .int)] s := hK
  refine W.widen (k := 16) (n := 1304) (Nat.le_of_ble_eq_true rfl) (Nat.le_of_ble_eq_true rfl) ?_
  refine va_putF (D := (dC, dI)) (ci := 8) (v := .ref q_14) (ty := (.object "MatroidDeskModel$Num")) (C := "MatroidDeskModel") (T := px_T8) (N := 53) hx hb htw px_in8 px_ty8 px_tyok8 px_nm8 hown hK hP hD hS 0 rfl rfl 7 (by decide) (htw _ px_w257) (fun _ h9 => h9) rfl hin rfl (by decide +kernel) rfl rfl (by rw [hlen]; decide) px_d10_89 (fun H locs hP hD hS => ?_)
  have hP : va_P (dC, dI) vwCl [(h0, .inr (8, (fs7.set 7 (.ref q_14)))), (q_14, .inr (9, [.ref q_15, .int 0, .int 0])), (q_15, .inl (cA_7, 160, .inl (fun _ => 0)))] H := hP
  have hD : va_D A [(h0, .inr (8, (fs7.set 7 (.ref q_14)))), (q_14, .inr (9, [.ref q_15, .int 0, .int 0])), (q_15, .inl (cA_7, 160, .inl (fun _ => 0)))] := hD
  obtain ⟨fs8, efs⟩ : ∃ z : List Value, z = (fs7.set 7 (.ref q_14)) := ⟨_, rfl⟩
  rw [← efs] at hP hD
  have hk_51 : fs8[51]? = some (.int 0) := by rw [efs]; exact (px_sn (by decide)).trans hk_51
  have hk_47 : fs8[47]? = some (.int 0) := by rw [efs]; exact (px_sn (by decide)).trans hk_47
  have hk_52 : fs8[52]? = some (.int 0) := by rw [efs]; exact (px_sn (by decide)).trans hk_52
  have hk_49 : fs8[49]? = some (.int 0) := by rw [efs]; exact (px_sn (by decide)).trans hk_49
  have hlen : fs8.length = 53 := by rw [efs]; exact px_sl hlen
  clear efs
  have hP := hP.sub (ws' := [(h0, .inr (8, fs8))]) [0] rfl
  have hD := hD.sub (ws' := [(h0, .inr (8, fs8))]) [0] (by decide) rfl
  refine lv_aload_n hx hb px_d10_92 rfl (lv_at hl 0 rfl) ?_
  refine lv_sipush (v := 156) hx hb px_d10_93 (by decide) ?_
  refine va_newq (n := 156) (N' := 156) hx hb hown (htw _ px_w249) (hN.2.2 "MatroidDeskModel$Num" (by decide)) hK hP hD hS hA (by decide +kernel) (by decide +kernel) (by decide +kernel) (Nat.le_of_ble_eq_true rfl) (Nat.le_of_ble_eq_true rfl) px_d10_96 (fun q_16 cA_8 H hK hP hD hS => ?_)
  have hP : va_P (dC, dI) vwCl [(h0, .inr (8, fs8)), (q_16, .inl (cA_8, 156, .inr (.inr (.inr (.inr (fun _ => none))))))] H := hP
  have hD : va_D A [(h0, .inr (8, fs8)), (q_16, .inl (cA_8, 156, .inr (.inr (.inr (.inr (fun _ => none))))))] := hD
  have hK : va_K (dC, dI) vwCl [(cA, .int), (cA_1, .int), (cA_2, .int), (cA_3, .int), (cA_4, .int), (cA_5, .int), (cA_6, .int), (cA_7, .int), (cA_8, .object "MatroidDeskModel$Num")] s := hK
  refine W.widen (k := 17) (n := 1460) (Nat.le_of_ble_eq_true rfl) (Nat.le_of_ble_eq_true rfl) ?_
  refine va_putF (D := (dC, dI)) (ci := 8) (v := .ref q_16) (ty := (.array (.object "MatroidDeskModel$Num"))) (C := "MatroidDeskModel") (T := px_T8) (N := 53) hx hb htw px_in8 px_ty8 px_tyok8 px_nm8 hown hK hP hD hS 0 rfl rfl 8 (by decide) (htw _ px_w258) (fun _ h9 => h9) rfl hin rfl (by decide +kernel) rfl rfl (by rw [hlen]; decide) px_d10_99 (fun H locs hP hD hS => ?_)
  have hP : va_P (dC, dI) vwCl [(h0, .inr (8, (fs8.set 8 (.ref q_16)))), (q_16, .inl (cA_8, 156, .inr (.inr (.inr (.inr (fun _ => none))))))] H := hP
  have hD : va_D A [(h0, .inr (8, (fs8.set 8 (.ref q_16)))), (q_16, .inl (cA_8, 156, .inr (.inr (.inr (.inr (fun _ => none))))))] := hD
  obtain ⟨fs9, efs⟩ : ∃ z : List Value, z = (fs8.set 8 (.ref q_16)) := ⟨_, rfl⟩
  rw [← efs] at hP hD
  have hk_51 : fs9[51]? = some (.int 0) := by rw [efs]; exact (px_sn (by decide)).trans hk_51
  have hk_47 : fs9[47]? = some (.int 0) := by rw [efs]; exact (px_sn (by decide)).trans hk_47
  have hk_52 : fs9[52]? = some (.int 0) := by rw [efs]; exact (px_sn (by decide)).trans hk_52
  have hk_49 : fs9[49]? = some (.int 0) := by rw [efs]; exact (px_sn (by decide)).trans hk_49
  have hk_8 : fs9[8]? = some (.ref q_16) := by rw [efs]; exact px_ss hlen (by decide)
  have hlen : fs9.length = 53 := by rw [efs]; exact px_sl hlen
  clear efs
  refine lv_aload_n hx hb px_d10_102 rfl (lv_at hl 0 rfl) ?_
  refine lv_sipush (v := 156) hx hb px_d10_103 (by decide) ?_
  refine va_newa (atype := .int) (ty := .int) (n := 156) (N' := 156) (a0 := (156, .inl (fun _ => 0))) hx hb (htw _ px_w2) rfl hK hP hD hS hA (fun _ => rfl) (by decide +kernel) (by decide +kernel) (by decide +kernel) (Nat.le_of_ble_eq_true rfl) (Nat.le_of_ble_eq_true rfl) px_d10_106 (fun q_17 cA_9 H hK hP hD hS => ?_)
  have hP : va_P (dC, dI) vwCl [(h0, .inr (8, fs9)), (q_16, .inl (cA_8, 156, .inr (.inr (.inr (.inr (fun _ => none)))))), (q_17, .inl (cA_9, 156, .inl (fun _ => 0)))] H := hP
  have hD : va_D A [(h0, .inr (8, fs9)), (q_16, .inl (cA_8, 156, .inr (.inr (.inr (.inr (fun _ => none)))))), (q_17, .inl (cA_9, 156, .inl (fun _ => 0)))] := hD
  have hK : va_K (dC, dI) vwCl [(cA, .int), (cA_1, .int), (cA_2, .int), (cA_3, .int), (cA_4, .int), (cA_5, .int), (cA_6, .int), (cA_7, .int), (cA_8, .object "MatroidDeskModel$Num"), (cA_9, .int)] s := hK
  refine W.widen (k := 18) (n := 1616) (Nat.le_of_ble_eq_true rfl) (Nat.le_of_ble_eq_true rfl) ?_
  refine va_putF (D := (dC, dI)) (ci := 8) (v := .ref q_17) (ty := (.array .int)) (C := "MatroidDeskModel") (T := px_T8) (N := 53) hx hb htw px_in8 px_ty8 px_tyok8 px_nm8 hown hK hP hD hS 0 rfl rfl 9 (by decide) (htw _ px_w259) (fun _ h9 => h9) rfl hin rfl (by decide +kernel) rfl rfl (by rw [hlen]; decide) px_d10_108 (fun H locs hP hD hS => ?_)
  have hP : va_P (dC, dI) vwCl [(h0, .inr (8, (fs9.set 9 (.ref q_17)))), (q_16, .inl (cA_8, 156, .inr (.inr (.inr (.inr (fun _ => none)))))), (q_17, .inl (cA_9, 156, .inl (fun _ => 0)))] H := hP
  have hD : va_D A [(h0, .inr (8, (fs9.set 9 (.ref q_17)))), (q_16, .inl (cA_8, 156, .inr (.inr (.inr (.inr (fun _ => none)))))), (q_17, .inl (cA_9, 156, .inl (fun _ => 0)))] := hD
  obtain ⟨fs10, efs⟩ : ∃ z : List Value, z = (fs9.set 9 (.ref q_17)) := ⟨_, rfl⟩
  rw [← efs] at hP hD
  have hk_51 : fs10[51]? = some (.int 0) := by rw [efs]; exact (px_sn (by decide)).trans hk_51
  have hk_47 : fs10[47]? = some (.int 0) := by rw [efs]; exact (px_sn (by decide)).trans hk_47
  have hk_52 : fs10[52]? = some (.int 0) := by rw [efs]; exact (px_sn (by decide)).trans hk_52
  have hk_49 : fs10[49]? = some (.int 0) := by rw [efs]; exact (px_sn (by decide)).trans hk_49
  have hk_8 : fs10[8]? = some (.ref q_16) := by rw [efs]; exact (px_sn (by decide)).trans hk_8
  have hlen : fs10.length = 53 := by rw [efs]; exact px_sl hlen
  clear efs
  have hP := hP.sub (ws' := [(h0, .inr (8, fs10)), (q_16, .inl (cA_8, 156, .inr (.inr (.inr (.inr (fun _ => none))))))]) [0, 1] rfl
  have hD := hD.sub (ws' := [(h0, .inr (8, fs10)), (q_16, .inl (cA_8, 156, .inr (.inr (.inr (.inr (fun _ => none))))))]) [0, 1] (by decide) rfl
  refine lv_aload_n hx hb px_d10_111 rfl (lv_at hl 0 rfl) ?_
  refine lv_bipush (v := 13) hx hb px_d10_112 (by decide) ?_
  refine va_newa (atype := .int) (ty := .int) (n := 13) (N' := 13) (a0 := (13, .inl (fun _ => 0))) hx hb (htw _ px_w2) rfl hK hP hD hS hA (fun _ => rfl) (by decide +kernel) (by decide +kernel) (by decide +kernel) (Nat.le_of_ble_eq_true rfl) (Nat.le_of_ble_eq_true rfl) px_d10_114 (fun q_18 cA_10 H hK hP hD hS => ?_)
  have hP : va_P (dC, dI) vwCl [(h0, .inr (8, fs10)), (q_16, .inl (cA_8, 156, .inr (.inr (.inr (.inr (fun _ => none)))))), (q_18, .inl (cA_10, 13, .inl (fun _ => 0)))] H := hP
  have hD : va_D A [(h0, .inr (8, fs10)), (q_16, .inl (cA_8, 156, .inr (.inr (.inr (.inr (fun _ => none)))))), (q_18, .inl (cA_10, 13, .inl (fun _ => 0)))] := hD
  have hK : va_K (dC, dI) vwCl [(cA, .int), (cA_1, .int), (cA_2, .int), (cA_3, .int), (cA_4, .int), (cA_5, .int), (cA_6, .int), (cA_7, .int), (cA_8, .object "MatroidDeskModel$Num"), (cA_9, .int), (cA_10, .int)] s := hK
  refine W.widen (k := 19) (n := 1629) (Nat.le_of_ble_eq_true rfl) (Nat.le_of_ble_eq_true rfl) ?_
  refine va_putF (D := (dC, dI)) (ci := 8) (v := .ref q_18) (ty := (.array .int)) (C := "MatroidDeskModel") (T := px_T8) (N := 53) hx hb htw px_in8 px_ty8 px_tyok8 px_nm8 hown hK hP hD hS 0 rfl rfl 13 (by decide) (htw _ px_w260) (fun _ h9 => h9) rfl hin rfl (by decide +kernel) rfl rfl (by rw [hlen]; decide) px_d10_116 (fun H locs hP hD hS => ?_)
  have hP : va_P (dC, dI) vwCl [(h0, .inr (8, (fs10.set 13 (.ref q_18)))), (q_16, .inl (cA_8, 156, .inr (.inr (.inr (.inr (fun _ => none)))))), (q_18, .inl (cA_10, 13, .inl (fun _ => 0)))] H := hP
  have hD : va_D A [(h0, .inr (8, (fs10.set 13 (.ref q_18)))), (q_16, .inl (cA_8, 156, .inr (.inr (.inr (.inr (fun _ => none)))))), (q_18, .inl (cA_10, 13, .inl (fun _ => 0)))] := hD
  obtain ⟨fs11, efs⟩ : ∃ z : List Value, z = (fs10.set 13 (.ref q_18)) := ⟨_, rfl⟩
  rw [← efs] at hP hD
  have hk_51 : fs11[51]? = some (.int 0) := by rw [efs]; exact (px_sn (by decide)).trans hk_51
  have hk_47 : fs11[47]? = some (.int 0) := by rw [efs]; exact (px_sn (by decide)).trans hk_47
  have hk_52 : fs11[52]? = some (.int 0) := by rw [efs]; exact (px_sn (by decide)).trans hk_52
  have hk_49 : fs11[49]? = some (.int 0) := by rw [efs]; exact (px_sn (by decide)).trans hk_49
  have hk_8 : fs11[8]? = some (.ref q_16) := by rw [efs]; exact (px_sn (by decide)).trans hk_8
  have hlen : fs11.length = 53 := by rw [efs]; exact px_sl hlen
  clear efs
  have hP := hP.sub (ws' := [(h0, .inr (8, fs11)), (q_16, .inl (cA_8, 156, .inr (.inr (.inr (.inr (fun _ => none))))))]) [0, 1] rfl
  have hD := hD.sub (ws' := [(h0, .inr (8, fs11)), (q_16, .inl (cA_8, 156, .inr (.inr (.inr (.inr (fun _ => none))))))]) [0, 1] (by decide) rfl
  refine lv_aload_n hx hb px_d10_119 rfl (lv_at hl 0 rfl) ?_
  refine lv_bipush (v := 12) hx hb px_d10_120 (by decide) ?_
  refine va_newa (atype := .int) (ty := .int) (n := 12) (N' := 12) (a0 := (12, .inl (fun _ => 0))) hx hb (htw _ px_w2) rfl hK hP hD hS hA (fun _ => rfl) (by decide +kernel) (by decide +kernel) (by decide +kernel) (Nat.le_of_ble_eq_true rfl) (Nat.le_of_ble_eq_true rfl) px_d10_122 (fun q_19 cA_11 H hK hP hD hS => ?_)
  have hP : va_P (dC, dI) vwCl [(h0, .inr (8, fs11)), (q_16, .inl (cA_8, 156, .inr (.inr (.inr (.inr (fun _ => none)))))), (q_19, .inl (cA_11, 12, .inl (fun _ => 0)))] H := hP
  have hD : va_D A [(h0, .inr (8, fs11)), (q_16, .inl (cA_8, 156, .inr (.inr (.inr (.inr (fun _ => none)))))), (q_19, .inl (cA_11, 12, .inl (fun _ => 0)))] := hD
  have hK : va_K (dC, dI) vwCl [(cA, .int), (cA_1, .int), (cA_2, .int), (cA_3, .int), (cA_4, .int), (cA_5, .int), (cA_6, .int), (cA_7, .int), (cA_8, .object "MatroidDeskModel$Num"), (cA_9, .int), (cA_10, .int), (cA_11, .int)] s := hK
  refine W.widen (k := 20) (n := 1641) (Nat.le_of_ble_eq_true rfl) (Nat.le_of_ble_eq_true rfl) ?_
  refine va_putF (D := (dC, dI)) (ci := 8) (v := .ref q_19) (ty := (.array .int)) (C := "MatroidDeskModel") (T := px_T8) (N := 53) hx hb htw px_in8 px_ty8 px_tyok8 px_nm8 hown hK hP hD hS 0 rfl rfl 14 (by decide) (htw _ px_w261) (fun _ h9 => h9) rfl hin rfl (by decide +kernel) rfl rfl (by rw [hlen]; decide) px_d10_124 (fun H locs hP hD hS => ?_)
  have hP : va_P (dC, dI) vwCl [(h0, .inr (8, (fs11.set 14 (.ref q_19)))), (q_16, .inl (cA_8, 156, .inr (.inr (.inr (.inr (fun _ => none)))))), (q_19, .inl (cA_11, 12, .inl (fun _ => 0)))] H := hP
  have hD : va_D A [(h0, .inr (8, (fs11.set 14 (.ref q_19)))), (q_16, .inl (cA_8, 156, .inr (.inr (.inr (.inr (fun _ => none)))))), (q_19, .inl (cA_11, 12, .inl (fun _ => 0)))] := hD
  obtain ⟨fs12, efs⟩ : ∃ z : List Value, z = (fs11.set 14 (.ref q_19)) := ⟨_, rfl⟩
  rw [← efs] at hP hD
  have hk_51 : fs12[51]? = some (.int 0) := by rw [efs]; exact (px_sn (by decide)).trans hk_51
  have hk_47 : fs12[47]? = some (.int 0) := by rw [efs]; exact (px_sn (by decide)).trans hk_47
  have hk_52 : fs12[52]? = some (.int 0) := by rw [efs]; exact (px_sn (by decide)).trans hk_52
  have hk_49 : fs12[49]? = some (.int 0) := by rw [efs]; exact (px_sn (by decide)).trans hk_49
  have hk_8 : fs12[8]? = some (.ref q_16) := by rw [efs]; exact (px_sn (by decide)).trans hk_8
  have hlen : fs12.length = 53 := by rw [efs]; exact px_sl hlen
  clear efs
  have hP := hP.sub (ws' := [(h0, .inr (8, fs12)), (q_16, .inl (cA_8, 156, .inr (.inr (.inr (.inr (fun _ => none))))))]) [0, 1] rfl
  have hD := hD.sub (ws' := [(h0, .inr (8, fs12)), (q_16, .inl (cA_8, 156, .inr (.inr (.inr (.inr (fun _ => none))))))]) [0, 1] (by decide) rfl
  refine lv_aload_n hx hb px_d10_127 rfl (lv_at hl 0 rfl) ?_
  refine lv_bipush (v := 12) hx hb px_d10_128 (by decide) ?_
  refine va_newa (atype := .int) (ty := .int) (n := 12) (N' := 12) (a0 := (12, .inl (fun _ => 0))) hx hb (htw _ px_w2) rfl hK hP hD hS hA (fun _ => rfl) (by decide +kernel) (by decide +kernel) (by decide +kernel) (Nat.le_of_ble_eq_true rfl) (Nat.le_of_ble_eq_true rfl) px_d10_130 (fun q_20 cA_12 H hK hP hD hS => ?_)
  have hP : va_P (dC, dI) vwCl [(h0, .inr (8, fs12)), (q_16, .inl (cA_8, 156, .inr (.inr (.inr (.inr (fun _ => none)))))), (q_20, .inl (cA_12, 12, .inl (fun _ => 0)))] H := hP
  have hD : va_D A [(h0, .inr (8, fs12)), (q_16, .inl (cA_8, 156, .inr (.inr (.inr (.inr (fun _ => none)))))), (q_20, .inl (cA_12, 12, .inl (fun _ => 0)))] := hD
  have hK : va_K (dC, dI) vwCl [(cA, .int), (cA_1, .int), (cA_2, .int), (cA_3, .int), (cA_4, .int), (cA_5, .int), (cA_6, .int), (cA_7, .int), (cA_8, .object "MatroidDeskModel$Num"), (cA_9, .int), (cA_10, .int), (cA_11, .int), (cA_12, .int)] s := hK
  refine W.widen (k := 21) (n := 1653) (Nat.le_of_ble_eq_true rfl) (Nat.le_of_ble_eq_true rfl) ?_
  refine va_putF (D := (dC, dI)) (ci := 8) (v := .ref q_20) (ty := (.array .int)) (C := "MatroidDeskModel") (T := px_T8) (N := 53) hx hb htw px_in8 px_ty8 px_tyok8 px_nm8 hown hK hP hD hS 0 rfl rfl 15 (by decide) (htw _ px_w262) (fun _ h9 => h9) rfl hin rfl (by decide +kernel) rfl rfl (by rw [hlen]; decide) px_d10_132 (fun H locs hP hD hS => ?_)
  have hP : va_P (dC, dI) vwCl [(h0, .inr (8, (fs12.set 15 (.ref q_20)))), (q_16, .inl (cA_8, 156, .inr (.inr (.inr (.inr (fun _ => none)))))), (q_20, .inl (cA_12, 12, .inl (fun _ => 0)))] H := hP
  have hD : va_D A [(h0, .inr (8, (fs12.set 15 (.ref q_20)))), (q_16, .inl (cA_8, 156, .inr (.inr (.inr (.inr (fun _ => none)))))), (q_20, .inl (cA_12, 12, .inl (fun _ => 0)))] := hD
  obtain ⟨fs13, efs⟩ : ∃ z : List Value, z = (fs12.set 15 (.ref q_20)) := ⟨_, rfl⟩
  rw [← efs] at hP hD
  have hk_51 : fs13[51]? = some (.int 0) := by rw [efs]; exact (px_sn (by decide)).trans hk_51
  have hk_47 : fs13[47]? = some (.int 0) := by rw [efs]; exact (px_sn (by decide)).trans hk_47
  have hk_52 : fs13[52]? = some (.int 0) := by rw [efs]; exact (px_sn (by decide)).trans hk_52
  have hk_49 : fs13[49]? = some (.int 0) := by rw [efs]; exact (px_sn (by decide)).trans hk_49
  have hk_8 : fs13[8]? = some (.ref q_16) := by rw [efs]; exact (px_sn (by decide)).trans hk_8
  have hlen : fs13.length = 53 := by rw [efs]; exact px_sl hlen
  clear efs
  have hP := hP.sub (ws' := [(h0, .inr (8, fs13)), (q_16, .inl (cA_8, 156, .inr (.inr (.inr (.inr (fun _ => none))))))]) [0, 1] rfl
  have hD := hD.sub (ws' := [(h0, .inr (8, fs13)), (q_16, .inl (cA_8, 156, .inr (.inr (.inr (.inr (fun _ => none))))))]) [0, 1] (by decide) rfl
  refine lv_aload_n hx hb px_d10_135 rfl (lv_at hl 0 rfl) ?_
  refine lv_bipush (v := 36) hx hb px_d10_136 (by decide) ?_
  refine va_newq (n := 36) (N' := 36) hx hb hown (htw _ px_w249) (hN.2.2 "MatroidDeskModel$Num" (by decide)) hK hP hD hS hA (by decide +kernel) (by decide +kernel) (by decide +kernel) (Nat.le_of_ble_eq_true rfl) (Nat.le_of_ble_eq_true rfl) px_d10_138 (fun q_21 cA_13 H hK hP hD hS => ?_)
  have hP : va_P (dC, dI) vwCl [(h0, .inr (8, fs13)), (q_16, .inl (cA_8, 156, .inr (.inr (.inr (.inr (fun _ => none)))))), (q_21, .inl (cA_13, 36, .inr (.inr (.inr (.inr (fun _ => none))))))] H := hP
  have hD : va_D A [(h0, .inr (8, fs13)), (q_16, .inl (cA_8, 156, .inr (.inr (.inr (.inr (fun _ => none)))))), (q_21, .inl (cA_13, 36, .inr (.inr (.inr (.inr (fun _ => none))))))] := hD
  have hK : va_K (dC, dI) vwCl [(cA, .int), (cA_1, .int), (cA_2, .int), (cA_3, .int), (cA_4, .int), (cA_5, .int), (cA_6, .int), (cA_7, .int), (cA_8, .object "MatroidDeskModel$Num"), (cA_9, .int), (cA_10, .int), (cA_11, .int), (cA_12, .int), (cA_13, .object "MatroidDeskModel$Num")] s := hK
  refine W.widen (k := 22) (n := 1689) (Nat.le_of_ble_eq_true rfl) (Nat.le_of_ble_eq_true rfl) ?_
  refine va_putF (D := (dC, dI)) (ci := 8) (v := .ref q_21) (ty := (.array (.object "MatroidDeskModel$Num"))) (C := "MatroidDeskModel") (T := px_T8) (N := 53) hx hb htw px_in8 px_ty8 px_tyok8 px_nm8 hown hK hP hD hS 0 rfl rfl 16 (by decide) (htw _ px_w263) (fun _ h9 => h9) rfl hin rfl (by decide +kernel) rfl rfl (by rw [hlen]; decide) px_d10_141 (fun H locs hP hD hS => ?_)
  have hP : va_P (dC, dI) vwCl [(h0, .inr (8, (fs13.set 16 (.ref q_21)))), (q_16, .inl (cA_8, 156, .inr (.inr (.inr (.inr (fun _ => none)))))), (q_21, .inl (cA_13, 36, .inr (.inr (.inr (.inr (fun _ => none))))))] H := hP
  have hD : va_D A [(h0, .inr (8, (fs13.set 16 (.ref q_21)))), (q_16, .inl (cA_8, 156, .inr (.inr (.inr (.inr (fun _ => none)))))), (q_21, .inl (cA_13, 36, .inr (.inr (.inr (.inr (fun _ => none))))))] := hD
  obtain ⟨fs14, efs⟩ : ∃ z : List Value, z = (fs13.set 16 (.ref q_21)) := ⟨_, rfl⟩
  rw [← efs] at hP hD
  have hk_51 : fs14[51]? = some (.int 0) := by rw [efs]; exact (px_sn (by decide)).trans hk_51
  have hk_47 : fs14[47]? = some (.int 0) := by rw [efs]; exact (px_sn (by decide)).trans hk_47
  have hk_52 : fs14[52]? = some (.int 0) := by rw [efs]; exact (px_sn (by decide)).trans hk_52
  have hk_49 : fs14[49]? = some (.int 0) := by rw [efs]; exact (px_sn (by decide)).trans hk_49
  have hk_8 : fs14[8]? = some (.ref q_16) := by rw [efs]; exact (px_sn (by decide)).trans hk_8
  have hk_16 : fs14[16]? = some (.ref q_21) := by rw [efs]; exact px_ss hlen (by decide)
  have hlen : fs14.length = 53 := by rw [efs]; exact px_sl hlen
  clear efs
  refine lv_aload_n hx hb px_d10_144 rfl (lv_at hl 0 rfl) ?_
  refine lv_bipush (v := 36) hx hb px_d10_145 (by decide) ?_
  refine va_newa (atype := .int) (ty := .int) (n := 36) (N' := 36) (a0 := (36, .inl (fun _ => 0))) hx hb (htw _ px_w2) rfl hK hP hD hS hA (fun _ => rfl) (by decide +kernel) (by decide +kernel) (by decide +kernel) (Nat.le_of_ble_eq_true rfl) (Nat.le_of_ble_eq_true rfl) px_d10_147 (fun q_22 cA_14 H hK hP hD hS => ?_)
  have hP : va_P (dC, dI) vwCl [(h0, .inr (8, fs14)), (q_16, .inl (cA_8, 156, .inr (.inr (.inr (.inr (fun _ => none)))))), (q_21, .inl (cA_13, 36, .inr (.inr (.inr (.inr (fun _ => none)))))), (q_22, .inl (cA_14, 36, .inl (fun _ => 0)))] H := hP
  have hD : va_D A [(h0, .inr (8, fs14)), (q_16, .inl (cA_8, 156, .inr (.inr (.inr (.inr (fun _ => none)))))), (q_21, .inl (cA_13, 36, .inr (.inr (.inr (.inr (fun _ => none)))))), (q_22, .inl (cA_14, 36, .inl (fun _ => 0)))] := hD
  have hK : va_K (dC, dI) vwCl [(cA, .int), (cA_1, .int), (cA_2, .int), (cA_3, .int), (cA_4, .int), (cA_5, .int), (cA_6, .int), (cA_7, .int), (cA_8, .object "MatroidDeskModel$Num"), (cA_9, .int), (cA_10, .int), (cA_11, .int), (cA_12, .int), (cA_13, .object "MatroidDeskModel$Num"), (cA_14, .int)] s := hK
  refine W.widen (k := 23) (n := 1725) (Nat.le_of_ble_eq_true rfl) (Nat.le_of_ble_eq_true rfl) ?_
  refine va_putF (D := (dC, dI)) (ci := 8) (v := .ref q_22) (ty := (.array .int)) (C := "MatroidDeskModel") (T := px_T8) (N := 53) hx hb htw px_in8 px_ty8 px_tyok8 px_nm8 hown hK hP hD hS 0 rfl rfl 17 (by decide) (htw _ px_w264) (fun _ h9 => h9) rfl hin rfl (by decide +kernel) rfl rfl (by rw [hlen]; decide) px_d10_149 (fun H locs hP hD hS => ?_)
  have hP : va_P (dC, dI) vwCl [(h0, .inr (8, (fs14.set 17 (.ref q_22)))), (q_16, .inl (cA_8, 156, .inr (.inr (.inr (.inr (fun _ => none)))))), (q_21, .inl (cA_13, 36, .inr (.inr (.inr (.inr (fun _ => none)))))), (q_22, .inl (cA_14, 36, .inl (fun _ => 0)))] H := hP
  have hD : va_D A [(h0, .inr (8, (fs14.set 17 (.ref q_22)))), (q_16, .inl (cA_8, 156, .inr (.inr (.inr (.inr (fun _ => none)))))), (q_21, .inl (cA_13, 36, .inr (.inr (.inr (.inr (fun _ => none)))))), (q_22, .inl (cA_14, 36, .inl (fun _ => 0)))] := hD
  obtain ⟨fs15, efs⟩ : ∃ z : List Value, z = (fs14.set 17 (.ref q_22)) := ⟨_, rfl⟩
  rw [← efs] at hP hD
  have hk_51 : fs15[51]? = some (.int 0) := by rw [efs]; exact (px_sn (by decide)).trans hk_51
  have hk_47 : fs15[47]? = some (.int 0) := by rw [efs]; exact (px_sn (by decide)).trans hk_47
  have hk_52 : fs15[52]? = some (.int 0) := by rw [efs]; exact (px_sn (by decide)).trans hk_52
  have hk_49 : fs15[49]? = some (.int 0) := by rw [efs]; exact (px_sn (by decide)).trans hk_49
  have hk_8 : fs15[8]? = some (.ref q_16) := by rw [efs]; exact (px_sn (by decide)).trans hk_8
  have hk_16 : fs15[16]? = some (.ref q_21) := by rw [efs]; exact (px_sn (by decide)).trans hk_16
  have hlen : fs15.length = 53 := by rw [efs]; exact px_sl hlen
  clear efs
  have hP := hP.sub (ws' := [(h0, .inr (8, fs15)), (q_16, .inl (cA_8, 156, .inr (.inr (.inr (.inr (fun _ => none)))))), (q_21, .inl (cA_13, 36, .inr (.inr (.inr (.inr (fun _ => none))))))]) [0, 1, 2] rfl
  have hD := hD.sub (ws' := [(h0, .inr (8, fs15)), (q_16, .inl (cA_8, 156, .inr (.inr (.inr (.inr (fun _ => none)))))), (q_21, .inl (cA_13, 36, .inr (.inr (.inr (.inr (fun _ => none))))))]) [0, 1, 2] (by decide) rfl
  refine lv_aload_n hx hb px_d10_152 rfl (lv_at hl 0 rfl) ?_
  refine lv_bipush (v := 26) hx hb px_d10_153 (by decide) ?_
  refine va_newa (atype := .boolean) (ty := .boolean) (n := 26) (N' := 26) (a0 := (26, .inl (fun _ => 0))) hx hb (htw _ px_w5) rfl hK hP hD hS hA (fun _ => rfl) (by decide +kernel) (by decide +kernel) (by decide +kernel) (Nat.le_of_ble_eq_true rfl) (Nat.le_of_ble_eq_true rfl) px_d10_155 (fun q_23 cA_15 H hK hP hD hS => ?_)
  have hP : va_P (dC, dI) vwCl [(h0, .inr (8, fs15)), (q_16, .inl (cA_8, 156, .inr (.inr (.inr (.inr (fun _ => none)))))), (q_21, .inl (cA_13, 36, .inr (.inr (.inr (.inr (fun _ => none)))))), (q_23, .inl (cA_15, 26, .inl (fun _ => 0)))] H := hP
  have hD : va_D A [(h0, .inr (8, fs15)), (q_16, .inl (cA_8, 156, .inr (.inr (.inr (.inr (fun _ => none)))))), (q_21, .inl (cA_13, 36, .inr (.inr (.inr (.inr (fun _ => none)))))), (q_23, .inl (cA_15, 26, .inl (fun _ => 0)))] := hD
  have hK : va_K (dC, dI) vwCl [(cA, .int), (cA_1, .int), (cA_2, .int), (cA_3, .int), (cA_4, .int), (cA_5, .int), (cA_6, .int), (cA_7, .int), (cA_8, .object "MatroidDeskModel$Num"), (cA_9, .int), (cA_10, .int), (cA_11, .int), (cA_12, .int), (cA_13, .object "MatroidDeskModel$Num"), (cA_14, .int), (cA_15, .boolean)] s := hK
  refine W.widen (k := 24) (n := 1751) (Nat.le_of_ble_eq_true rfl) (Nat.le_of_ble_eq_true rfl) ?_
  refine va_putF (D := (dC, dI)) (ci := 8) (v := .ref q_23) (ty := (.array .boolean)) (C := "MatroidDeskModel") (T := px_T8) (N := 53) hx hb htw px_in8 px_ty8 px_tyok8 px_nm8 hown hK hP hD hS 0 rfl rfl 18 (by decide) (htw _ px_w265) (fun _ h9 => h9) rfl hin rfl (by decide +kernel) rfl rfl (by rw [hlen]; decide) px_d10_157 (fun H locs hP hD hS => ?_)
  have hP : va_P (dC, dI) vwCl [(h0, .inr (8, (fs15.set 18 (.ref q_23)))), (q_16, .inl (cA_8, 156, .inr (.inr (.inr (.inr (fun _ => none)))))), (q_21, .inl (cA_13, 36, .inr (.inr (.inr (.inr (fun _ => none)))))), (q_23, .inl (cA_15, 26, .inl (fun _ => 0)))] H := hP
  have hD : va_D A [(h0, .inr (8, (fs15.set 18 (.ref q_23)))), (q_16, .inl (cA_8, 156, .inr (.inr (.inr (.inr (fun _ => none)))))), (q_21, .inl (cA_13, 36, .inr (.inr (.inr (.inr (fun _ => none)))))), (q_23, .inl (cA_15, 26, .inl (fun _ => 0)))] := hD
  obtain ⟨fs16, efs⟩ : ∃ z : List Value, z = (fs15.set 18 (.ref q_23)) := ⟨_, rfl⟩
  rw [← efs] at hP hD
  have hk_51 : fs16[51]? = some (.int 0) := by rw [efs]; exact (px_sn (by decide)).trans hk_51
  have hk_47 : fs16[47]? = some (.int 0) := by rw [efs]; exact (px_sn (by decide)).trans hk_47
  have hk_52 : fs16[52]? = some (.int 0) := by rw [efs]; exact (px_sn (by decide)).trans hk_52
  have hk_49 : fs16[49]? = some (.int 0) := by rw [efs]; exact (px_sn (by decide)).trans hk_49
  have hk_8 : fs16[8]? = some (.ref q_16) := by rw [efs]; exact (px_sn (by decide)).trans hk_8
  have hk_16 : fs16[16]? = some (.ref q_21) := by rw [efs]; exact (px_sn (by decide)).trans hk_16
  have hk_18 : fs16[18]? = some (.ref q_23) := by rw [efs]; exact px_ss hlen (by decide)
  have hlen : fs16.length = 53 := by rw [efs]; exact px_sl hlen
  clear efs
  refine lv_aload_n hx hb px_d10_160 rfl (lv_at hl 0 rfl) ?_
  refine lv_bipush (v := 26) hx hb px_d10_161 (by decide) ?_
  refine va_newa (atype := .int) (ty := .int) (n := 26) (N' := 26) (a0 := (26, .inl (fun _ => 0))) hx hb (htw _ px_w2) rfl hK hP hD hS hA (fun _ => rfl) (by decide +kernel) (by decide +kernel) (by decide +kernel) (Nat.le_of_ble_eq_true rfl) (Nat.le_of_ble_eq_true rfl) px_d10_163 (fun q_24 cA_16 H hK hP hD hS => ?_)
  have hP : va_P (dC, dI) vwCl [(h0, .inr (8, fs16)), (q_16, .inl (cA_8, 156, .inr (.inr (.inr (.inr (fun _ => none)))))), (q_21, .inl (cA_13, 36, .inr (.inr (.inr (.inr (fun _ => none)))))), (q_23, .inl (cA_15, 26, .inl (fun _ => 0))), (q_24, .inl (cA_16, 26, .inl (fun _ => 0)))] H := hP
  have hD : va_D A [(h0, .inr (8, fs16)), (q_16, .inl (cA_8, 156, .inr (.inr (.inr (.inr (fun _ => none)))))), (q_21, .inl (cA_13, 36, .inr (.inr (.inr (.inr (fun _ => none)))))), (q_23, .inl (cA_15, 26, .inl (fun _ => 0))), (q_24, .inl (cA_16, 26, .inl (fun _ => 0)))] := hD
  have hK : va_K (dC, dI) vwCl [(cA, .int), (cA_1, .int), (cA_2, .int), (cA_3, .int), (cA_4, .int), (cA_5, .int), (cA_6, .int), (cA_7, .int), (cA_8, .object "MatroidDeskModel$Num"), (cA_9, .int), (cA_10, .int), (cA_11, .int), (cA_12, .int), (cA_13, .object "MatroidDeskModel$Num"), (cA_14, .int), (cA_15, .boolean), (cA_16, .int)] s := hK
  refine W.widen (k := 25) (n := 1777) (Nat.le_of_ble_eq_true rfl) (Nat.le_of_ble_eq_true rfl) ?_
  refine va_putF (D := (dC, dI)) (ci := 8) (v := .ref q_24) (ty := (.array .int)) (C := "MatroidDeskModel") (T := px_T8) (N := 53) hx hb htw px_in8 px_ty8 px_tyok8 px_nm8 hown hK hP hD hS 0 rfl rfl 19 (by decide) (htw _ px_w266) (fun _ h9 => h9) rfl hin rfl (by decide +kernel) rfl rfl (by rw [hlen]; decide) px_d10_165 (fun H locs hP hD hS => ?_)
  have hP : va_P (dC, dI) vwCl [(h0, .inr (8, (fs16.set 19 (.ref q_24)))), (q_16, .inl (cA_8, 156, .inr (.inr (.inr (.inr (fun _ => none)))))), (q_21, .inl (cA_13, 36, .inr (.inr (.inr (.inr (fun _ => none)))))), (q_23, .inl (cA_15, 26, .inl (fun _ => 0))), (q_24, .inl (cA_16, 26, .inl (fun _ => 0)))] H := hP
  have hD : va_D A [(h0, .inr (8, (fs16.set 19 (.ref q_24)))), (q_16, .inl (cA_8, 156, .inr (.inr (.inr (.inr (fun _ => none)))))), (q_21, .inl (cA_13, 36, .inr (.inr (.inr (.inr (fun _ => none)))))), (q_23, .inl (cA_15, 26, .inl (fun _ => 0))), (q_24, .inl (cA_16, 26, .inl (fun _ => 0)))] := hD
  obtain ⟨fs17, efs⟩ : ∃ z : List Value, z = (fs16.set 19 (.ref q_24)) := ⟨_, rfl⟩
  rw [← efs] at hP hD
  have hk_51 : fs17[51]? = some (.int 0) := by rw [efs]; exact (px_sn (by decide)).trans hk_51
  have hk_47 : fs17[47]? = some (.int 0) := by rw [efs]; exact (px_sn (by decide)).trans hk_47
  have hk_52 : fs17[52]? = some (.int 0) := by rw [efs]; exact (px_sn (by decide)).trans hk_52
  have hk_49 : fs17[49]? = some (.int 0) := by rw [efs]; exact (px_sn (by decide)).trans hk_49
  have hk_8 : fs17[8]? = some (.ref q_16) := by rw [efs]; exact (px_sn (by decide)).trans hk_8
  have hk_16 : fs17[16]? = some (.ref q_21) := by rw [efs]; exact (px_sn (by decide)).trans hk_16
  have hk_18 : fs17[18]? = some (.ref q_23) := by rw [efs]; exact (px_sn (by decide)).trans hk_18
  have hlen : fs17.length = 53 := by rw [efs]; exact px_sl hlen
  clear efs
  have hP := hP.sub (ws' := [(h0, .inr (8, fs17)), (q_16, .inl (cA_8, 156, .inr (.inr (.inr (.inr (fun _ => none)))))), (q_21, .inl (cA_13, 36, .inr (.inr (.inr (.inr (fun _ => none)))))), (q_23, .inl (cA_15, 26, .inl (fun _ => 0)))]) [0, 1, 2, 3] rfl
  have hD := hD.sub (ws' := [(h0, .inr (8, fs17)), (q_16, .inl (cA_8, 156, .inr (.inr (.inr (.inr (fun _ => none)))))), (q_21, .inl (cA_13, 36, .inr (.inr (.inr (.inr (fun _ => none)))))), (q_23, .inl (cA_15, 26, .inl (fun _ => 0)))]) [0, 1, 2, 3] (by decide) rfl
  refine lv_aload_n hx hb px_d10_168 rfl (lv_at hl 0 rfl) ?_
  refine lv_bipush (v := 26) hx hb px_d10_169 (by decide) ?_
  refine va_newa (atype := .int) (ty := .int) (n := 26) (N' := 26) (a0 := (26, .inl (fun _ => 0))) hx hb (htw _ px_w2) rfl hK hP hD hS hA (fun _ => rfl) (by decide +kernel) (by decide +kernel) (by decide +kernel) (Nat.le_of_ble_eq_true rfl) (Nat.le_of_ble_eq_true rfl) px_d10_171 (fun q_25 cA_17 H hK hP hD hS => ?_)
  have hP : va_P (dC, dI) vwCl [(h0, .inr (8, fs17)), (q_16, .inl (cA_8, 156, .inr (.inr (.inr (.inr (fun _ => none)))))), (q_21, .inl (cA_13, 36, .inr (.inr (.inr (.inr (fun _ => none)))))), (q_23, .inl (cA_15, 26, .inl (fun _ => 0))), (q_25, .inl (cA_17, 26, .inl (fun _ => 0)))] H := hP
  have hD : va_D A [(h0, .inr (8, fs17)), (q_16, .inl (cA_8, 156, .inr (.inr (.inr (.inr (fun _ => none)))))), (q_21, .inl (cA_13, 36, .inr (.inr (.inr (.inr (fun _ => none)))))), (q_23, .inl (cA_15, 26, .inl (fun _ => 0))), (q_25, .inl (cA_17, 26, .inl (fun _ => 0)))] := hD
  have hK : va_K (dC, dI) vwCl [(cA, .int), (cA_1, .int), (cA_2, .int), (cA_3, .int), (cA_4, .int), (cA_5, .int), (cA_6, .int), (cA_7, .int), (cA_8, .object "MatroidDeskModel$Num"), (cA_9, .int), (cA_10, .int), (cA_11, .int), (cA_12, .int), (cA_13, .object "MatroidDeskModel$Num"), (cA_14, .int), (cA_15, .boolean), (cA_16, .int), (cA_17, .int)] s := hK
  refine W.widen (k := 26) (n := 1803) (Nat.le_of_ble_eq_true rfl) (Nat.le_of_ble_eq_true rfl) ?_
  refine va_putF (D := (dC, dI)) (ci := 8) (v := .ref q_25) (ty := (.array .int)) (C := "MatroidDeskModel") (T := px_T8) (N := 53) hx hb htw px_in8 px_ty8 px_tyok8 px_nm8 hown hK hP hD hS 0 rfl rfl 20 (by decide) (htw _ px_w267) (fun _ h9 => h9) rfl hin rfl (by decide +kernel) rfl rfl (by rw [hlen]; decide) px_d10_173 (fun H locs hP hD hS => ?_)
  have hP : va_P (dC, dI) vwCl [(h0, .inr (8, (fs17.set 20 (.ref q_25)))), (q_16, .inl (cA_8, 156, .inr (.inr (.inr (.inr (fun _ => none)))))), (q_21, .inl (cA_13, 36, .inr (.inr (.inr (.inr (fun _ => none)))))), (q_23, .inl (cA_15, 26, .inl (fun _ => 0))), (q_25, .inl (cA_17, 26, .inl (fun _ => 0)))] H := hP
  have hD : va_D A [(h0, .inr (8, (fs17.set 20 (.ref q_25)))), (q_16, .inl (cA_8, 156, .inr (.inr (.inr (.inr (fun _ => none)))))), (q_21, .inl (cA_13, 36, .inr (.inr (.inr (.inr (fun _ => none)))))), (q_23, .inl (cA_15, 26, .inl (fun _ => 0))), (q_25, .inl (cA_17, 26, .inl (fun _ => 0)))] := hD
  obtain ⟨fs18, efs⟩ : ∃ z : List Value, z = (fs17.set 20 (.ref q_25)) := ⟨_, rfl⟩
  rw [← efs] at hP hD
  have hk_51 : fs18[51]? = some (.int 0) := by rw [efs]; exact (px_sn (by decide)).trans hk_51
  have hk_47 : fs18[47]? = some (.int 0) := by rw [efs]; exact (px_sn (by decide)).trans hk_47
  have hk_52 : fs18[52]? = some (.int 0) := by rw [efs]; exact (px_sn (by decide)).trans hk_52
  have hk_49 : fs18[49]? = some (.int 0) := by rw [efs]; exact (px_sn (by decide)).trans hk_49
  have hk_8 : fs18[8]? = some (.ref q_16) := by rw [efs]; exact (px_sn (by decide)).trans hk_8
  have hk_16 : fs18[16]? = some (.ref q_21) := by rw [efs]; exact (px_sn (by decide)).trans hk_16
  have hk_18 : fs18[18]? = some (.ref q_23) := by rw [efs]; exact (px_sn (by decide)).trans hk_18
  have hlen : fs18.length = 53 := by rw [efs]; exact px_sl hlen
  clear efs
  have hP := hP.sub (ws' := [(h0, .inr (8, fs18)), (q_16, .inl (cA_8, 156, .inr (.inr (.inr (.inr (fun _ => none)))))), (q_21, .inl (cA_13, 36, .inr (.inr (.inr (.inr (fun _ => none)))))), (q_23, .inl (cA_15, 26, .inl (fun _ => 0)))]) [0, 1, 2, 3] rfl
  have hD := hD.sub (ws' := [(h0, .inr (8, fs18)), (q_16, .inl (cA_8, 156, .inr (.inr (.inr (.inr (fun _ => none)))))), (q_21, .inl (cA_13, 36, .inr (.inr (.inr (.inr (fun _ => none)))))), (q_23, .inl (cA_15, 26, .inl (fun _ => 0)))]) [0, 1, 2, 3] (by decide) rfl
  refine lv_aload_n hx hb px_d10_176 rfl (lv_at hl 0 rfl) ?_
  refine lv_bipush (v := 26) hx hb px_d10_177 (by decide) ?_
  refine va_newa (atype := .int) (ty := .int) (n := 26) (N' := 26) (a0 := (26, .inl (fun _ => 0))) hx hb (htw _ px_w2) rfl hK hP hD hS hA (fun _ => rfl) (by decide +kernel) (by decide +kernel) (by decide +kernel) (Nat.le_of_ble_eq_true rfl) (Nat.le_of_ble_eq_true rfl) px_d10_179 (fun q_26 cA_18 H hK hP hD hS => ?_)
  have hP : va_P (dC, dI) vwCl [(h0, .inr (8, fs18)), (q_16, .inl (cA_8, 156, .inr (.inr (.inr (.inr (fun _ => none)))))), (q_21, .inl (cA_13, 36, .inr (.inr (.inr (.inr (fun _ => none)))))), (q_23, .inl (cA_15, 26, .inl (fun _ => 0))), (q_26, .inl (cA_18, 26, .inl (fun _ => 0)))] H := hP
  have hD : va_D A [(h0, .inr (8, fs18)), (q_16, .inl (cA_8, 156, .inr (.inr (.inr (.inr (fun _ => none)))))), (q_21, .inl (cA_13, 36, .inr (.inr (.inr (.inr (fun _ => none)))))), (q_23, .inl (cA_15, 26, .inl (fun _ => 0))), (q_26, .inl (cA_18, 26, .inl (fun _ => 0)))] := hD
  have hK : va_K (dC, dI) vwCl [(cA, .int), (cA_1, .int), (cA_2, .int), (cA_3, .int), (cA_4, .int), (cA_5, .int), (cA_6, .int), (cA_7, .int), (cA_8, .object "MatroidDeskModel$Num"), (cA_9, .int), (cA_10, .int), (cA_11, .int), (cA_12, .int), (cA_13, .object "MatroidDeskModel$Num"), (cA_14, .int), (cA_15, .boolean), (cA_16, .int), (cA_17, .int), (cA_18, .int)] s := hK
  refine W.widen (k := 27) (n := 1829) (Nat.le_of_ble_eq_true rfl) (Nat.le_of_ble_eq_true rfl) ?_
  refine va_putF (D := (dC, dI)) (ci := 8) (v := .ref q_26) (ty := (.array .int)) (C := "MatroidDeskModel") (T := px_T8) (N := 53) hx hb htw px_in8 px_ty8 px_tyok8 px_nm8 hown hK hP hD hS 0 rfl rfl 21 (by decide) (htw _ px_w268) (fun _ h9 => h9) rfl hin rfl (by decide +kernel) rfl rfl (by rw [hlen]; decide) px_d10_181 (fun H locs hP hD hS => ?_)
  have hP : va_P (dC, dI) vwCl [(h0, .inr (8, (fs18.set 21 (.ref q_26)))), (q_16, .inl (cA_8, 156, .inr (.inr (.inr (.inr (fun _ => none)))))), (q_21, .inl (cA_13, 36, .inr (.inr (.inr (.inr (fun _ => none)))))), (q_23, .inl (cA_15, 26, .inl (fun _ => 0))), (q_26, .inl (cA_18, 26, .inl (fun _ => 0)))] H := hP
  have hD : va_D A [(h0, .inr (8, (fs18.set 21 (.ref q_26)))), (q_16, .inl (cA_8, 156, .inr (.inr (.inr (.inr (fun _ => none)))))), (q_21, .inl (cA_13, 36, .inr (.inr (.inr (.inr (fun _ => none)))))), (q_23, .inl (cA_15, 26, .inl (fun _ => 0))), (q_26, .inl (cA_18, 26, .inl (fun _ => 0)))] := hD
  obtain ⟨fs19, efs⟩ : ∃ z : List Value, z = (fs18.set 21 (.ref q_26)) := ⟨_, rfl⟩
  rw [← efs] at hP hD
  have hk_51 : fs19[51]? = some (.int 0) := by rw [efs]; exact (px_sn (by decide)).trans hk_51
  have hk_47 : fs19[47]? = some (.int 0) := by rw [efs]; exact (px_sn (by decide)).trans hk_47
  have hk_52 : fs19[52]? = some (.int 0) := by rw [efs]; exact (px_sn (by decide)).trans hk_52
  have hk_49 : fs19[49]? = some (.int 0) := by rw [efs]; exact (px_sn (by decide)).trans hk_49
  have hk_8 : fs19[8]? = some (.ref q_16) := by rw [efs]; exact (px_sn (by decide)).trans hk_8
  have hk_16 : fs19[16]? = some (.ref q_21) := by rw [efs]; exact (px_sn (by decide)).trans hk_16
  have hk_18 : fs19[18]? = some (.ref q_23) := by rw [efs]; exact (px_sn (by decide)).trans hk_18
  have hlen : fs19.length = 53 := by rw [efs]; exact px_sl hlen
  clear efs
  have hP := hP.sub (ws' := [(h0, .inr (8, fs19)), (q_16, .inl (cA_8, 156, .inr (.inr (.inr (.inr (fun _ => none)))))), (q_21, .inl (cA_13, 36, .inr (.inr (.inr (.inr (fun _ => none)))))), (q_23, .inl (cA_15, 26, .inl (fun _ => 0)))]) [0, 1, 2, 3] rfl
  have hD := hD.sub (ws' := [(h0, .inr (8, fs19)), (q_16, .inl (cA_8, 156, .inr (.inr (.inr (.inr (fun _ => none)))))), (q_21, .inl (cA_13, 36, .inr (.inr (.inr (.inr (fun _ => none)))))), (q_23, .inl (cA_15, 26, .inl (fun _ => 0)))]) [0, 1, 2, 3] (by decide) rfl
  refine lv_aload_n hx hb px_d10_184 rfl (lv_at hl 0 rfl) ?_
  refine lv_ldc hx hb (own := "MatroidDeskModel") (index := 166) (v := 89856) hown (htw _ px_w269) px_d10_185 ?_
  refine va_newa (atype := .int) (ty := .int) (n := 89856) (N' := 89856) (a0 := (89856, .inl (fun _ => 0))) hx hb (htw _ px_w2) rfl hK hP hD hS hA (fun _ => rfl) (by decide +kernel) (by decide +kernel) (by decide +kernel) (Nat.le_of_ble_eq_true rfl) (Nat.le_of_ble_eq_true rfl) px_d10_187 (fun q_27 cA_19 H hK hP hD hS => ?_)
  have hP : va_P (dC, dI) vwCl [(h0, .inr (8, fs19)), (q_16, .inl (cA_8, 156, .inr (.inr (.inr (.inr (fun _ => none)))))), (q_21, .inl (cA_13, 36, .inr (.inr (.inr (.inr (fun _ => none)))))), (q_23, .inl (cA_15, 26, .inl (fun _ => 0))), (q_27, .inl (cA_19, 89856, .inl (fun _ => 0)))] H := hP
  have hD : va_D A [(h0, .inr (8, fs19)), (q_16, .inl (cA_8, 156, .inr (.inr (.inr (.inr (fun _ => none)))))), (q_21, .inl (cA_13, 36, .inr (.inr (.inr (.inr (fun _ => none)))))), (q_23, .inl (cA_15, 26, .inl (fun _ => 0))), (q_27, .inl (cA_19, 89856, .inl (fun _ => 0)))] := hD
  have hK : va_K (dC, dI) vwCl [(cA, .int), (cA_1, .int), (cA_2, .int), (cA_3, .int), (cA_4, .int), (cA_5, .int), (cA_6, .int), (cA_7, .int), (cA_8, .object "MatroidDeskModel$Num"), (cA_9, .int), (cA_10, .int), (cA_11, .int), (cA_12, .int), (cA_13, .object "MatroidDeskModel$Num"), (cA_14, .int), (cA_15, .boolean), (cA_16, .int), (cA_17, .int), (cA_18, .int), (cA_19, .int)] s := hK
  refine W.widen (k := 28) (n := 91685) (Nat.le_of_ble_eq_true rfl) (Nat.le_of_ble_eq_true rfl) ?_
  refine va_putF (D := (dC, dI)) (ci := 8) (v := .ref q_27) (ty := (.array .int)) (C := "MatroidDeskModel") (T := px_T8) (N := 53) hx hb htw px_in8 px_ty8 px_tyok8 px_nm8 hown hK hP hD hS 0 rfl rfl 22 (by decide) (htw _ px_w270) (fun _ h9 => h9) rfl hin rfl (by decide +kernel) rfl rfl (by rw [hlen]; decide) px_d10_189 (fun H locs hP hD hS => ?_)
  have hP : va_P (dC, dI) vwCl [(h0, .inr (8, (fs19.set 22 (.ref q_27)))), (q_16, .inl (cA_8, 156, .inr (.inr (.inr (.inr (fun _ => none)))))), (q_21, .inl (cA_13, 36, .inr (.inr (.inr (.inr (fun _ => none)))))), (q_23, .inl (cA_15, 26, .inl (fun _ => 0))), (q_27, .inl (cA_19, 89856, .inl (fun _ => 0)))] H := hP
  have hD : va_D A [(h0, .inr (8, (fs19.set 22 (.ref q_27)))), (q_16, .inl (cA_8, 156, .inr (.inr (.inr (.inr (fun _ => none)))))), (q_21, .inl (cA_13, 36, .inr (.inr (.inr (.inr (fun _ => none)))))), (q_23, .inl (cA_15, 26, .inl (fun _ => 0))), (q_27, .inl (cA_19, 89856, .inl (fun _ => 0)))] := hD
  obtain ⟨fs20, efs⟩ : ∃ z : List Value, z = (fs19.set 22 (.ref q_27)) := ⟨_, rfl⟩
  rw [← efs] at hP hD
  have hk_51 : fs20[51]? = some (.int 0) := by rw [efs]; exact (px_sn (by decide)).trans hk_51
  have hk_47 : fs20[47]? = some (.int 0) := by rw [efs]; exact (px_sn (by decide)).trans hk_47
  have hk_52 : fs20[52]? = some (.int 0) := by rw [efs]; exact (px_sn (by decide)).trans hk_52
  have hk_49 : fs20[49]? = some (.int 0) := by rw [efs]; exact (px_sn (by decide)).trans hk_49
  have hk_8 : fs20[8]? = some (.ref q_16) := by rw [efs]; exact (px_sn (by decide)).trans hk_8
  have hk_16 : fs20[16]? = some (.ref q_21) := by rw [efs]; exact (px_sn (by decide)).trans hk_16
  have hk_18 : fs20[18]? = some (.ref q_23) := by rw [efs]; exact (px_sn (by decide)).trans hk_18
  have hlen : fs20.length = 53 := by rw [efs]; exact px_sl hlen
  clear efs
  have hP := hP.sub (ws' := [(h0, .inr (8, fs20)), (q_16, .inl (cA_8, 156, .inr (.inr (.inr (.inr (fun _ => none)))))), (q_21, .inl (cA_13, 36, .inr (.inr (.inr (.inr (fun _ => none)))))), (q_23, .inl (cA_15, 26, .inl (fun _ => 0)))]) [0, 1, 2, 3] rfl
  have hD := hD.sub (ws' := [(h0, .inr (8, fs20)), (q_16, .inl (cA_8, 156, .inr (.inr (.inr (.inr (fun _ => none)))))), (q_21, .inl (cA_13, 36, .inr (.inr (.inr (.inr (fun _ => none)))))), (q_23, .inl (cA_15, 26, .inl (fun _ => 0)))]) [0, 1, 2, 3] (by decide) rfl
  refine lv_aload_n hx hb px_d10_192 rfl (lv_at hl 0 rfl) ?_
  refine lv_sipush (v := 3744) hx hb px_d10_193 (by decide) ?_
  refine va_newa (atype := .int) (ty := .int) (n := 3744) (N' := 3744) (a0 := (3744, .inl (fun _ => 0))) hx hb (htw _ px_w2) rfl hK hP hD hS hA (fun _ => rfl) (by decide +kernel) (by decide +kernel) (by decide +kernel) (Nat.le_of_ble_eq_true rfl) (Nat.le_of_ble_eq_true rfl) px_d10_196 (fun q_28 cA_20 H hK hP hD hS => ?_)
  have hP : va_P (dC, dI) vwCl [(h0, .inr (8, fs20)), (q_16, .inl (cA_8, 156, .inr (.inr (.inr (.inr (fun _ => none)))))), (q_21, .inl (cA_13, 36, .inr (.inr (.inr (.inr (fun _ => none)))))), (q_23, .inl (cA_15, 26, .inl (fun _ => 0))), (q_28, .inl (cA_20, 3744, .inl (fun _ => 0)))] H := hP
  have hD : va_D A [(h0, .inr (8, fs20)), (q_16, .inl (cA_8, 156, .inr (.inr (.inr (.inr (fun _ => none)))))), (q_21, .inl (cA_13, 36, .inr (.inr (.inr (.inr (fun _ => none)))))), (q_23, .inl (cA_15, 26, .inl (fun _ => 0))), (q_28, .inl (cA_20, 3744, .inl (fun _ => 0)))] := hD
  have hK : va_K (dC, dI) vwCl [(cA, .int), (cA_1, .int), (cA_2, .int), (cA_3, .int), (cA_4, .int), (cA_5, .int), (cA_6, .int), (cA_7, .int), (cA_8, .object "MatroidDeskModel$Num"), (cA_9, .int), (cA_10, .int), (cA_11, .int), (cA_12, .int), (cA_13, .object "MatroidDeskModel$Num"), (cA_14, .int), (cA_15, .boolean), (cA_16, .int), (cA_17, .int), (cA_18, .int), (cA_19, .int), (cA_20, .int)] s := hK
  refine W.widen (k := 29) (n := 95429) (Nat.le_of_ble_eq_true rfl) (Nat.le_of_ble_eq_true rfl) ?_
  refine va_putF (D := (dC, dI)) (ci := 8) (v := .ref q_28) (ty := (.array .int)) (C := "MatroidDeskModel") (T := px_T8) (N := 53) hx hb htw px_in8 px_ty8 px_tyok8 px_nm8 hown hK hP hD hS 0 rfl rfl 23 (by decide) (htw _ px_w271) (fun _ h9 => h9) rfl hin rfl (by decide +kernel) rfl rfl (by rw [hlen]; decide) px_d10_198 (fun H locs hP hD hS => ?_)
  have hP : va_P (dC, dI) vwCl [(h0, .inr (8, (fs20.set 23 (.ref q_28)))), (q_16, .inl (cA_8, 156, .inr (.inr (.inr (.inr (fun _ => none)))))), (q_21, .inl (cA_13, 36, .inr (.inr (.inr (.inr (fun _ => none)))))), (q_23, .inl (cA_15, 26, .inl (fun _ => 0))), (q_28, .inl (cA_20, 3744, .inl (fun _ => 0)))] H := hP
  have hD : va_D A [(h0, .inr (8, (fs20.set 23 (.ref q_28)))), (q_16, .inl (cA_8, 156, .inr (.inr (.inr (.inr (fun _ => none)))))), (q_21, .inl (cA_13, 36, .inr (.inr (.inr (.inr (fun _ => none)))))), (q_23, .inl (cA_15, 26, .inl (fun _ => 0))), (q_28, .inl (cA_20, 3744, .inl (fun _ => 0)))] := hD
  obtain ⟨fs21, efs⟩ : ∃ z : List Value, z = (fs20.set 23 (.ref q_28)) := ⟨_, rfl⟩
  rw [← efs] at hP hD
  have hk_51 : fs21[51]? = some (.int 0) := by rw [efs]; exact (px_sn (by decide)).trans hk_51
  have hk_47 : fs21[47]? = some (.int 0) := by rw [efs]; exact (px_sn (by decide)).trans hk_47
  have hk_52 : fs21[52]? = some (.int 0) := by rw [efs]; exact (px_sn (by decide)).trans hk_52
  have hk_49 : fs21[49]? = some (.int 0) := by rw [efs]; exact (px_sn (by decide)).trans hk_49
  have hk_8 : fs21[8]? = some (.ref q_16) := by rw [efs]; exact (px_sn (by decide)).trans hk_8
  have hk_16 : fs21[16]? = some (.ref q_21) := by rw [efs]; exact (px_sn (by decide)).trans hk_16
  have hk_18 : fs21[18]? = some (.ref q_23) := by rw [efs]; exact (px_sn (by decide)).trans hk_18
  have hlen : fs21.length = 53 := by rw [efs]; exact px_sl hlen
  clear efs
  have hP := hP.sub (ws' := [(h0, .inr (8, fs21)), (q_16, .inl (cA_8, 156, .inr (.inr (.inr (.inr (fun _ => none)))))), (q_21, .inl (cA_13, 36, .inr (.inr (.inr (.inr (fun _ => none)))))), (q_23, .inl (cA_15, 26, .inl (fun _ => 0)))]) [0, 1, 2, 3] rfl
  have hD := hD.sub (ws' := [(h0, .inr (8, fs21)), (q_16, .inl (cA_8, 156, .inr (.inr (.inr (.inr (fun _ => none)))))), (q_21, .inl (cA_13, 36, .inr (.inr (.inr (.inr (fun _ => none)))))), (q_23, .inl (cA_15, 26, .inl (fun _ => 0)))]) [0, 1, 2, 3] (by decide) rfl
  refine lv_aload_n hx hb px_d10_201 rfl (lv_at hl 0 rfl) ?_
  refine lv_sipush (v := 312) hx hb px_d10_202 (by decide) ?_
  refine va_newa (atype := .int) (ty := .int) (n := 312) (N' := 312) (a0 := (312, .inl (fun _ => 0))) hx hb (htw _ px_w2) rfl hK hP hD hS hA (fun _ => rfl) (by decide +kernel) (by decide +kernel) (by decide +kernel) (Nat.le_of_ble_eq_true rfl) (Nat.le_of_ble_eq_true rfl) px_d10_205 (fun q_29 cA_21 H hK hP hD hS => ?_)
  have hP : va_P (dC, dI) vwCl [(h0, .inr (8, fs21)), (q_16, .inl (cA_8, 156, .inr (.inr (.inr (.inr (fun _ => none)))))), (q_21, .inl (cA_13, 36, .inr (.inr (.inr (.inr (fun _ => none)))))), (q_23, .inl (cA_15, 26, .inl (fun _ => 0))), (q_29, .inl (cA_21, 312, .inl (fun _ => 0)))] H := hP
  have hD : va_D A [(h0, .inr (8, fs21)), (q_16, .inl (cA_8, 156, .inr (.inr (.inr (.inr (fun _ => none)))))), (q_21, .inl (cA_13, 36, .inr (.inr (.inr (.inr (fun _ => none)))))), (q_23, .inl (cA_15, 26, .inl (fun _ => 0))), (q_29, .inl (cA_21, 312, .inl (fun _ => 0)))] := hD
  have hK : va_K (dC, dI) vwCl [(cA, .int), (cA_1, .int), (cA_2, .int), (cA_3, .int), (cA_4, .int), (cA_5, .int), (cA_6, .int), (cA_7, .int), (cA_8, .object "MatroidDeskModel$Num"), (cA_9, .int), (cA_10, .int), (cA_11, .int), (cA_12, .int), (cA_13, .object "MatroidDeskModel$Num"), (cA_14, .int), (cA_15, .boolean), (cA_16, .int), (cA_17, .int), (cA_18, .int), (cA_19, .int), (cA_20, .int), (cA_21, .int)] s := hK
  refine W.widen (k := 30) (n := 95741) (Nat.le_of_ble_eq_true rfl) (Nat.le_of_ble_eq_true rfl) ?_
  refine va_putF (D := (dC, dI)) (ci := 8) (v := .ref q_29) (ty := (.array .int)) (C := "MatroidDeskModel") (T := px_T8) (N := 53) hx hb htw px_in8 px_ty8 px_tyok8 px_nm8 hown hK hP hD hS 0 rfl rfl 24 (by decide) (htw _ px_w272) (fun _ h9 => h9) rfl hin rfl (by decide +kernel) rfl rfl (by rw [hlen]; decide) px_d10_207 (fun H locs hP hD hS => ?_)
  have hP : va_P (dC, dI) vwCl [(h0, .inr (8, (fs21.set 24 (.ref q_29)))), (q_16, .inl (cA_8, 156, .inr (.inr (.inr (.inr (fun _ => none)))))), (q_21, .inl (cA_13, 36, .inr (.inr (.inr (.inr (fun _ => none)))))), (q_23, .inl (cA_15, 26, .inl (fun _ => 0))), (q_29, .inl (cA_21, 312, .inl (fun _ => 0)))] H := hP
  have hD : va_D A [(h0, .inr (8, (fs21.set 24 (.ref q_29)))), (q_16, .inl (cA_8, 156, .inr (.inr (.inr (.inr (fun _ => none)))))), (q_21, .inl (cA_13, 36, .inr (.inr (.inr (.inr (fun _ => none)))))), (q_23, .inl (cA_15, 26, .inl (fun _ => 0))), (q_29, .inl (cA_21, 312, .inl (fun _ => 0)))] := hD
  obtain ⟨fs22, efs⟩ : ∃ z : List Value, z = (fs21.set 24 (.ref q_29)) := ⟨_, rfl⟩
  rw [← efs] at hP hD
  have hk_51 : fs22[51]? = some (.int 0) := by rw [efs]; exact (px_sn (by decide)).trans hk_51
  have hk_47 : fs22[47]? = some (.int 0) := by rw [efs]; exact (px_sn (by decide)).trans hk_47
  have hk_52 : fs22[52]? = some (.int 0) := by rw [efs]; exact (px_sn (by decide)).trans hk_52
  have hk_49 : fs22[49]? = some (.int 0) := by rw [efs]; exact (px_sn (by decide)).trans hk_49
  have hk_8 : fs22[8]? = some (.ref q_16) := by rw [efs]; exact (px_sn (by decide)).trans hk_8
  have hk_16 : fs22[16]? = some (.ref q_21) := by rw [efs]; exact (px_sn (by decide)).trans hk_16
  have hk_18 : fs22[18]? = some (.ref q_23) := by rw [efs]; exact (px_sn (by decide)).trans hk_18
  have hlen : fs22.length = 53 := by rw [efs]; exact px_sl hlen
  clear efs
  have hP := hP.sub (ws' := [(h0, .inr (8, fs22)), (q_16, .inl (cA_8, 156, .inr (.inr (.inr (.inr (fun _ => none)))))), (q_21, .inl (cA_13, 36, .inr (.inr (.inr (.inr (fun _ => none)))))), (q_23, .inl (cA_15, 26, .inl (fun _ => 0)))]) [0, 1, 2, 3] rfl
  have hD := hD.sub (ws' := [(h0, .inr (8, fs22)), (q_16, .inl (cA_8, 156, .inr (.inr (.inr (.inr (fun _ => none)))))), (q_21, .inl (cA_13, 36, .inr (.inr (.inr (.inr (fun _ => none)))))), (q_23, .inl (cA_15, 26, .inl (fun _ => 0)))]) [0, 1, 2, 3] (by decide) rfl
  refine lv_aload_n hx hb px_d10_210 rfl (lv_at hl 0 rfl) ?_
  refine lv_ldc hx hb (own := "MatroidDeskModel") (index := 176) (v := 106496) hown (htw _ px_w273) px_d10_211 ?_
  refine va_newa (atype := .byte) (ty := .byte) (n := 106496) (N' := 106496) (a0 := (106496, .inl (fun _ => 0))) hx hb (htw _ px_w3) rfl hK hP hD hS hA (fun _ => rfl) (by decide +kernel) (by decide +kernel) (by decide +kernel) (Nat.le_of_ble_eq_true rfl) (Nat.le_of_ble_eq_true rfl) px_d10_213 (fun q_30 cA_22 H hK hP hD hS => ?_)
  have hP : va_P (dC, dI) vwCl [(h0, .inr (8, fs22)), (q_16, .inl (cA_8, 156, .inr (.inr (.inr (.inr (fun _ => none)))))), (q_21, .inl (cA_13, 36, .inr (.inr (.inr (.inr (fun _ => none)))))), (q_23, .inl (cA_15, 26, .inl (fun _ => 0))), (q_30, .inl (cA_22, 106496, .inl (fun _ => 0)))] H := hP
  have hD : va_D A [(h0, .inr (8, fs22)), (q_16, .inl (cA_8, 156, .inr (.inr (.inr (.inr (fun _ => none)))))), (q_21, .inl (cA_13, 36, .inr (.inr (.inr (.inr (fun _ => none)))))), (q_23, .inl (cA_15, 26, .inl (fun _ => 0))), (q_30, .inl (cA_22, 106496, .inl (fun _ => 0)))] := hD
  have hK : va_K (dC, dI) vwCl [(cA, .int), (cA_1, .int), (cA_2, .int), (cA_3, .int), (cA_4, .int), (cA_5, .int), (cA_6, .int), (cA_7, .int), (cA_8, .object "MatroidDeskModel$Num"), (cA_9, .int), (cA_10, .int), (cA_11, .int), (cA_12, .int), (cA_13, .object "MatroidDeskModel$Num"), (cA_14, .int), (cA_15, .boolean), (cA_16, .int), (cA_17, .int), (cA_18, .int), (cA_19, .int), (cA_20, .int), (cA_21, .int), (cA_22, .byte)] s := hK
  refine W.widen (k := 31) (n := 202237) (Nat.le_of_ble_eq_true rfl) (Nat.le_of_ble_eq_true rfl) ?_
  refine va_putF (D := (dC, dI)) (ci := 8) (v := .ref q_30) (ty := (.array .byte)) (C := "MatroidDeskModel") (T := px_T8) (N := 53) hx hb htw px_in8 px_ty8 px_tyok8 px_nm8 hown hK hP hD hS 0 rfl rfl 25 (by decide) (htw _ px_w274) (fun _ h9 => h9) rfl hin rfl (by decide +kernel) rfl rfl (by rw [hlen]; decide) px_d10_215 (fun H locs hP hD hS => ?_)
  have hP : va_P (dC, dI) vwCl [(h0, .inr (8, (fs22.set 25 (.ref q_30)))), (q_16, .inl (cA_8, 156, .inr (.inr (.inr (.inr (fun _ => none)))))), (q_21, .inl (cA_13, 36, .inr (.inr (.inr (.inr (fun _ => none)))))), (q_23, .inl (cA_15, 26, .inl (fun _ => 0))), (q_30, .inl (cA_22, 106496, .inl (fun _ => 0)))] H := hP
  have hD : va_D A [(h0, .inr (8, (fs22.set 25 (.ref q_30)))), (q_16, .inl (cA_8, 156, .inr (.inr (.inr (.inr (fun _ => none)))))), (q_21, .inl (cA_13, 36, .inr (.inr (.inr (.inr (fun _ => none)))))), (q_23, .inl (cA_15, 26, .inl (fun _ => 0))), (q_30, .inl (cA_22, 106496, .inl (fun _ => 0)))] := hD
  obtain ⟨fs23, efs⟩ : ∃ z : List Value, z = (fs22.set 25 (.ref q_30)) := ⟨_, rfl⟩
  rw [← efs] at hP hD
  have hk_51 : fs23[51]? = some (.int 0) := by rw [efs]; exact (px_sn (by decide)).trans hk_51
  have hk_47 : fs23[47]? = some (.int 0) := by rw [efs]; exact (px_sn (by decide)).trans hk_47
  have hk_52 : fs23[52]? = some (.int 0) := by rw [efs]; exact (px_sn (by decide)).trans hk_52
  have hk_49 : fs23[49]? = some (.int 0) := by rw [efs]; exact (px_sn (by decide)).trans hk_49
  have hk_8 : fs23[8]? = some (.ref q_16) := by rw [efs]; exact (px_sn (by decide)).trans hk_8
  have hk_16 : fs23[16]? = some (.ref q_21) := by rw [efs]; exact (px_sn (by decide)).trans hk_16
  have hk_18 : fs23[18]? = some (.ref q_23) := by rw [efs]; exact (px_sn (by decide)).trans hk_18
  have hlen : fs23.length = 53 := by rw [efs]; exact px_sl hlen
  clear efs
  have hP := hP.sub (ws' := [(h0, .inr (8, fs23)), (q_16, .inl (cA_8, 156, .inr (.inr (.inr (.inr (fun _ => none)))))), (q_21, .inl (cA_13, 36, .inr (.inr (.inr (.inr (fun _ => none)))))), (q_23, .inl (cA_15, 26, .inl (fun _ => 0)))]) [0, 1, 2, 3] rfl
  have hD := hD.sub (ws' := [(h0, .inr (8, fs23)), (q_16, .inl (cA_8, 156, .inr (.inr (.inr (.inr (fun _ => none)))))), (q_21, .inl (cA_13, 36, .inr (.inr (.inr (.inr (fun _ => none)))))), (q_23, .inl (cA_15, 26, .inl (fun _ => 0)))]) [0, 1, 2, 3] (by decide) rfl
  refine lv_aload_n hx hb px_d10_218 rfl (lv_at hl 0 rfl) ?_
  refine lv_ldc hx hb (own := "MatroidDeskModel") (index := 176) (v := 106496) hown (htw _ px_w273) px_d10_219 ?_
  refine va_newa (atype := .byte) (ty := .byte) (n := 106496) (N' := 106496) (a0 := (106496, .inl (fun _ => 0))) hx hb (htw _ px_w3) rfl hK hP hD hS hA (fun _ => rfl) (by decide +kernel) (by decide +kernel) (by decide +kernel) (Nat.le_of_ble_eq_true rfl) (Nat.le_of_ble_eq_true rfl) px_d10_221 (fun q_31 cA_23 H hK hP hD hS => ?_)
  have hP : va_P (dC, dI) vwCl [(h0, .inr (8, fs23)), (q_16, .inl (cA_8, 156, .inr (.inr (.inr (.inr (fun _ => none)))))), (q_21, .inl (cA_13, 36, .inr (.inr (.inr (.inr (fun _ => none)))))), (q_23, .inl (cA_15, 26, .inl (fun _ => 0))), (q_31, .inl (cA_23, 106496, .inl (fun _ => 0)))] H := hP
  have hD : va_D A [(h0, .inr (8, fs23)), (q_16, .inl (cA_8, 156, .inr (.inr (.inr (.inr (fun _ => none)))))), (q_21, .inl (cA_13, 36, .inr (.inr (.inr (.inr (fun _ => none)))))), (q_23, .inl (cA_15, 26, .inl (fun _ => 0))), (q_31, .inl (cA_23, 106496, .inl (fun _ => 0)))] := hD
  have hK : va_K (dC, dI) vwCl [(cA, .int), (cA_1, .int), (cA_2, .int), (cA_3, .int), (cA_4, .int), (cA_5, .int), (cA_6, .int), (cA_7, .int), (cA_8, .object "MatroidDeskModel$Num"), (cA_9, .int), (cA_10, .int), (cA_11, .int), (cA_12, .int), (cA_13, .object "MatroidDeskModel$Num"), (cA_14, .int), (cA_15, .boolean), (cA_16, .int), (cA_17, .int), (cA_18, .int), (cA_19, .int), (cA_20, .int), (cA_21, .int), (cA_22, .byte), (cA_23, .byte)] s := hK
  refine W.widen (k := 32) (n := 308733) (Nat.le_of_ble_eq_true rfl) (Nat.le_of_ble_eq_true rfl) ?_
  refine va_putF (D := (dC, dI)) (ci := 8) (v := .ref q_31) (ty := (.array .byte)) (C := "MatroidDeskModel") (T := px_T8) (N := 53) hx hb htw px_in8 px_ty8 px_tyok8 px_nm8 hown hK hP hD hS 0 rfl rfl 26 (by decide) (htw _ px_w275) (fun _ h9 => h9) rfl hin rfl (by decide +kernel) rfl rfl (by rw [hlen]; decide) px_d10_223 (fun H locs hP hD hS => ?_)
  have hP : va_P (dC, dI) vwCl [(h0, .inr (8, (fs23.set 26 (.ref q_31)))), (q_16, .inl (cA_8, 156, .inr (.inr (.inr (.inr (fun _ => none)))))), (q_21, .inl (cA_13, 36, .inr (.inr (.inr (.inr (fun _ => none)))))), (q_23, .inl (cA_15, 26, .inl (fun _ => 0))), (q_31, .inl (cA_23, 106496, .inl (fun _ => 0)))] H := hP
  have hD : va_D A [(h0, .inr (8, (fs23.set 26 (.ref q_31)))), (q_16, .inl (cA_8, 156, .inr (.inr (.inr (.inr (fun _ => none)))))), (q_21, .inl (cA_13, 36, .inr (.inr (.inr (.inr (fun _ => none)))))), (q_23, .inl (cA_15, 26, .inl (fun _ => 0))), (q_31, .inl (cA_23, 106496, .inl (fun _ => 0)))] := hD
  obtain ⟨fs24, efs⟩ : ∃ z : List Value, z = (fs23.set 26 (.ref q_31)) := ⟨_, rfl⟩
  rw [← efs] at hP hD
  have hk_51 : fs24[51]? = some (.int 0) := by rw [efs]; exact (px_sn (by decide)).trans hk_51
  have hk_47 : fs24[47]? = some (.int 0) := by rw [efs]; exact (px_sn (by decide)).trans hk_47
  have hk_52 : fs24[52]? = some (.int 0) := by rw [efs]; exact (px_sn (by decide)).trans hk_52
  have hk_49 : fs24[49]? = some (.int 0) := by rw [efs]; exact (px_sn (by decide)).trans hk_49
  have hk_8 : fs24[8]? = some (.ref q_16) := by rw [efs]; exact (px_sn (by decide)).trans hk_8
  have hk_16 : fs24[16]? = some (.ref q_21) := by rw [efs]; exact (px_sn (by decide)).trans hk_16
  have hk_18 : fs24[18]? = some (.ref q_23) := by rw [efs]; exact (px_sn (by decide)).trans hk_18
  have hlen : fs24.length = 53 := by rw [efs]; exact px_sl hlen
  clear efs
  have hP := hP.sub (ws' := [(h0, .inr (8, fs24)), (q_16, .inl (cA_8, 156, .inr (.inr (.inr (.inr (fun _ => none)))))), (q_21, .inl (cA_13, 36, .inr (.inr (.inr (.inr (fun _ => none)))))), (q_23, .inl (cA_15, 26, .inl (fun _ => 0)))]) [0, 1, 2, 3] rfl
  have hD := hD.sub (ws' := [(h0, .inr (8, fs24)), (q_16, .inl (cA_8, 156, .inr (.inr (.inr (.inr (fun _ => none)))))), (q_21, .inl (cA_13, 36, .inr (.inr (.inr (.inr (fun _ => none)))))), (q_23, .inl (cA_15, 26, .inl (fun _ => 0)))]) [0, 1, 2, 3] (by decide) rfl
  refine lv_aload_n hx hb px_d10_226 rfl (lv_at hl 0 rfl) ?_
  refine lv_sipush (v := 4096) hx hb px_d10_227 (by decide) ?_
  refine va_newa (atype := .int) (ty := .int) (n := 4096) (N' := 4096) (a0 := (4096, .inl (fun _ => 0))) hx hb (htw _ px_w2) rfl hK hP hD hS hA (fun _ => rfl) (by decide +kernel) (by decide +kernel) (by decide +kernel) (Nat.le_of_ble_eq_true rfl) (Nat.le_of_ble_eq_true rfl) px_d10_230 (fun q_32 cA_24 H hK hP hD hS => ?_)
  have hP : va_P (dC, dI) vwCl [(h0, .inr (8, fs24)), (q_16, .inl (cA_8, 156, .inr (.inr (.inr (.inr (fun _ => none)))))), (q_21, .inl (cA_13, 36, .inr (.inr (.inr (.inr (fun _ => none)))))), (q_23, .inl (cA_15, 26, .inl (fun _ => 0))), (q_32, .inl (cA_24, 4096, .inl (fun _ => 0)))] H := hP
  have hD : va_D A [(h0, .inr (8, fs24)), (q_16, .inl (cA_8, 156, .inr (.inr (.inr (.inr (fun _ => none)))))), (q_21, .inl (cA_13, 36, .inr (.inr (.inr (.inr (fun _ => none)))))), (q_23, .inl (cA_15, 26, .inl (fun _ => 0))), (q_32, .inl (cA_24, 4096, .inl (fun _ => 0)))] := hD
  have hK : va_K (dC, dI) vwCl [(cA, .int), (cA_1, .int), (cA_2, .int), (cA_3, .int), (cA_4, .int), (cA_5, .int), (cA_6, .int), (cA_7, .int), (cA_8, .object "MatroidDeskModel$Num"), (cA_9, .int), (cA_10, .int), (cA_11, .int), (cA_12, .int), (cA_13, .object "MatroidDeskModel$Num"), (cA_14, .int), (cA_15, .boolean), (cA_16, .int), (cA_17, .int), (cA_18, .int), (cA_19, .int), (cA_20, .int), (cA_21, .int), (cA_22, .byte), (cA_23, .byte), (cA_24, .int)] s := hK
  refine W.widen (k := 33) (n := 312829) (Nat.le_of_ble_eq_true rfl) (Nat.le_of_ble_eq_true rfl) ?_
  refine va_putF (D := (dC, dI)) (ci := 8) (v := .ref q_32) (ty := (.array .int)) (C := "MatroidDeskModel") (T := px_T8) (N := 53) hx hb htw px_in8 px_ty8 px_tyok8 px_nm8 hown hK hP hD hS 0 rfl rfl 27 (by decide) (htw _ px_w243) (fun _ h9 => h9) rfl hin rfl (by decide +kernel) rfl rfl (by rw [hlen]; decide) px_d10_232 (fun H locs hP hD hS => ?_)
  have hP : va_P (dC, dI) vwCl [(h0, .inr (8, (fs24.set 27 (.ref q_32)))), (q_16, .inl (cA_8, 156, .inr (.inr (.inr (.inr (fun _ => none)))))), (q_21, .inl (cA_13, 36, .inr (.inr (.inr (.inr (fun _ => none)))))), (q_23, .inl (cA_15, 26, .inl (fun _ => 0))), (q_32, .inl (cA_24, 4096, .inl (fun _ => 0)))] H := hP
  have hD : va_D A [(h0, .inr (8, (fs24.set 27 (.ref q_32)))), (q_16, .inl (cA_8, 156, .inr (.inr (.inr (.inr (fun _ => none)))))), (q_21, .inl (cA_13, 36, .inr (.inr (.inr (.inr (fun _ => none)))))), (q_23, .inl (cA_15, 26, .inl (fun _ => 0))), (q_32, .inl (cA_24, 4096, .inl (fun _ => 0)))] := hD
  obtain ⟨fs25, efs⟩ : ∃ z : List Value, z = (fs24.set 27 (.ref q_32)) := ⟨_, rfl⟩
  rw [← efs] at hP hD
  have hk_51 : fs25[51]? = some (.int 0) := by rw [efs]; exact (px_sn (by decide)).trans hk_51
  have hk_47 : fs25[47]? = some (.int 0) := by rw [efs]; exact (px_sn (by decide)).trans hk_47
  have hk_52 : fs25[52]? = some (.int 0) := by rw [efs]; exact (px_sn (by decide)).trans hk_52
  have hk_49 : fs25[49]? = some (.int 0) := by rw [efs]; exact (px_sn (by decide)).trans hk_49
  have hk_8 : fs25[8]? = some (.ref q_16) := by rw [efs]; exact (px_sn (by decide)).trans hk_8
  have hk_16 : fs25[16]? = some (.ref q_21) := by rw [efs]; exact (px_sn (by decide)).trans hk_16
  have hk_18 : fs25[18]? = some (.ref q_23) := by rw [efs]; exact (px_sn (by decide)).trans hk_18
  have hk_27 : fs25[27]? = some (.ref q_32) := by rw [efs]; exact px_ss hlen (by decide)
  have hlen : fs25.length = 53 := by rw [efs]; exact px_sl hlen
  clear efs
  refine lv_aload_n hx hb px_d10_235 rfl (lv_at hl 0 rfl) ?_
  refine lv_sipush (v := 4096) hx hb px_d10_236 (by decide) ?_
  refine va_newa (atype := .int) (ty := .int) (n := 4096) (N' := 4096) (a0 := (4096, .inl (fun _ => 0))) hx hb (htw _ px_w2) rfl hK hP hD hS hA (fun _ => rfl) (by decide +kernel) (by decide +kernel) (by decide +kernel) (Nat.le_of_ble_eq_true rfl) (Nat.le_of_ble_eq_true rfl) px_d10_239 (fun q_33 cA_25 H hK hP hD hS => ?_)
  have hP : va_P (dC, dI) vwCl [(h0, .inr (8, fs25)), (q_16, .inl (cA_8, 156, .inr (.inr (.inr (.inr (fun _ => none)))))), (q_21, .inl (cA_13, 36, .inr (.inr (.inr (.inr (fun _ => none)))))), (q_23, .inl (cA_15, 26, .inl (fun _ => 0))), (q_32, .inl (cA_24, 4096, .inl (fun _ => 0))), (q_33, .inl (cA_25, 4096, .inl (fun _ => 0)))] H := hP
  have hD : va_D A [(h0, .inr (8, fs25)), (q_16, .inl (cA_8, 156, .inr (.inr (.inr (.inr (fun _ => none)))))), (q_21, .inl (cA_13, 36, .inr (.inr (.inr (.inr (fun _ => none)))))), (q_23, .inl (cA_15, 26, .inl (fun _ => 0))), (q_32, .inl (cA_24, 4096, .inl (fun _ => 0))), (q_33, .inl (cA_25, 4096, .inl (fun _ => 0)))] := hD
  have hK : va_K (dC, dI) vwCl [(cA, .int), (cA_1, .int), (cA_2, .int), (cA_3, .int), (cA_4, .int), (cA_5, .int), (cA_6, .int), (cA_7, .int), (cA_8, .object "MatroidDeskModel$Num"), (cA_9, .int), (cA_10, .int), (cA_11, .int), (cA_12, .int), (cA_13, .object "MatroidDeskModel$Num"), (cA_14, .int), (cA_15, .boolean), (cA_16, .int), (cA_17, .int), (cA_18, .int), (cA_19, .int), (cA_20, .int), (cA_21, .int), (cA_22, .byte), (cA_23, .byte), (cA_24, .int), (cA_25, .int)] s := hK
  refine W.widen (k := 34) (n := 316925) (Nat.le_of_ble_eq_true rfl) (Nat.le_of_ble_eq_true rfl) ?_
  refine va_putF (D := (dC, dI)) (ci := 8) (v := .ref q_33) (ty := (.array .int)) (C := "MatroidDeskModel") (T := px_T8) (N := 53) hx hb htw px_in8 px_ty8 px_tyok8 px_nm8 hown hK hP hD hS 0 rfl rfl 28 (by decide) (htw _ px_w245) (fun _ h9 => h9) rfl hin rfl (by decide +kernel) rfl rfl (by rw [hlen]; decide) px_d10_241 (fun H locs hP hD hS => ?_)
  have hP : va_P (dC, dI) vwCl [(h0, .inr (8, (fs25.set 28 (.ref q_33)))), (q_16, .inl (cA_8, 156, .inr (.inr (.inr (.inr (fun _ => none)))))), (q_21, .inl (cA_13, 36, .inr (.inr (.inr (.inr (fun _ => none)))))), (q_23, .inl (cA_15, 26, .inl (fun _ => 0))), (q_32, .inl (cA_24, 4096, .inl (fun _ => 0))), (q_33, .inl (cA_25, 4096, .inl (fun _ => 0)))] H := hP
  have hD : va_D A [(h0, .inr (8, (fs25.set 28 (.ref q_33)))), (q_16, .inl (cA_8, 156, .inr (.inr (.inr (.inr (fun _ => none)))))), (q_21, .inl (cA_13, 36, .inr (.inr (.inr (.inr (fun _ => none)))))), (q_23, .inl (cA_15, 26, .inl (fun _ => 0))), (q_32, .inl (cA_24, 4096, .inl (fun _ => 0))), (q_33, .inl (cA_25, 4096, .inl (fun _ => 0)))] := hD
  obtain ⟨fs26, efs⟩ : ∃ z : List Value, z = (fs25.set 28 (.ref q_33)) := ⟨_, rfl⟩
  rw [← efs] at hP hD
  have hk_51 : fs26[51]? = some (.int 0) := by rw [efs]; exact (px_sn (by decide)).trans hk_51
  have hk_47 : fs26[47]? = some (.int 0) := by rw [efs]; exact (px_sn (by decide)).trans hk_47
  have hk_52 : fs26[52]? = some (.int 0) := by rw [efs]; exact (px_sn (by decide)).trans hk_52
  have hk_49 : fs26[49]? = some (.int 0) := by rw [efs]; exact (px_sn (by decide)).trans hk_49
  have hk_8 : fs26[8]? = some (.ref q_16) := by rw [efs]; exact (px_sn (by decide)).trans hk_8
  have hk_16 : fs26[16]? = some (.ref q_21) := by rw [efs]; exact (px_sn (by decide)).trans hk_16
  have hk_18 : fs26[18]? = some (.ref q_23) := by rw [efs]; exact (px_sn (by decide)).trans hk_18
  have hk_27 : fs26[27]? = some (.ref q_32) := by rw [efs]; exact (px_sn (by decide)).trans hk_27
  have hk_28 : fs26[28]? = some (.ref q_33) := by rw [efs]; exact px_ss hlen (by decide)
  have hlen : fs26.length = 53 := by rw [efs]; exact px_sl hlen
  clear efs
  refine lv_aload_n hx hb px_d10_244 rfl (lv_at hl 0 rfl) ?_
  refine lv_sipush (v := 169) hx hb px_d10_245 (by decide) ?_
  refine va_newa (atype := .long) (ty := .long) (n := 169) (N' := 169) (a0 := (169, .inr (.inl (fun _ => 0)))) hx hb (htw _ px_w4) rfl hK hP hD hS hA (fun _ => rfl) (by decide +kernel) (by decide +kernel) (by decide +kernel) (Nat.le_of_ble_eq_true rfl) (Nat.le_of_ble_eq_true rfl) px_d10_248 (fun q_34 cA_26 H hK hP hD hS => ?_)
  have hP : va_P (dC, dI) vwCl [(h0, .inr (8, fs26)), (q_16, .inl (cA_8, 156, .inr (.inr (.inr (.inr (fun _ => none)))))), (q_21, .inl (cA_13, 36, .inr (.inr (.inr (.inr (fun _ => none)))))), (q_23, .inl (cA_15, 26, .inl (fun _ => 0))), (q_32, .inl (cA_24, 4096, .inl (fun _ => 0))), (q_33, .inl (cA_25, 4096, .inl (fun _ => 0))), (q_34, .inl (cA_26, 169, .inr (.inl (fun _ => 0))))] H := hP
  have hD : va_D A [(h0, .inr (8, fs26)), (q_16, .inl (cA_8, 156, .inr (.inr (.inr (.inr (fun _ => none)))))), (q_21, .inl (cA_13, 36, .inr (.inr (.inr (.inr (fun _ => none)))))), (q_23, .inl (cA_15, 26, .inl (fun _ => 0))), (q_32, .inl (cA_24, 4096, .inl (fun _ => 0))), (q_33, .inl (cA_25, 4096, .inl (fun _ => 0))), (q_34, .inl (cA_26, 169, .inr (.inl (fun _ => 0))))] := hD
  have hK : va_K (dC, dI) vwCl [(cA, .int), (cA_1, .int), (cA_2, .int), (cA_3, .int), (cA_4, .int), (cA_5, .int), (cA_6, .int), (cA_7, .int), (cA_8, .object "MatroidDeskModel$Num"), (cA_9, .int), (cA_10, .int), (cA_11, .int), (cA_12, .int), (cA_13, .object "MatroidDeskModel$Num"), (cA_14, .int), (cA_15, .boolean), (cA_16, .int), (cA_17, .int), (cA_18, .int), (cA_19, .int), (cA_20, .int), (cA_21, .int), (cA_22, .byte), (cA_23, .byte), (cA_24, .int), (cA_25, .int), (cA_26, .long)] s := hK
  refine W.widen (k := 35) (n := 317094) (Nat.le_of_ble_eq_true rfl) (Nat.le_of_ble_eq_true rfl) ?_
  refine va_putF (D := (dC, dI)) (ci := 8) (v := .ref q_34) (ty := (.array .long)) (C := "MatroidDeskModel") (T := px_T8) (N := 53) hx hb htw px_in8 px_ty8 px_tyok8 px_nm8 hown hK hP hD hS 0 rfl rfl 29 (by decide) (htw _ px_w276) (fun _ h9 => h9) rfl hin rfl (by decide +kernel) rfl rfl (by rw [hlen]; decide) px_d10_250 (fun H locs hP hD hS => ?_)
  have hP : va_P (dC, dI) vwCl [(h0, .inr (8, (fs26.set 29 (.ref q_34)))), (q_16, .inl (cA_8, 156, .inr (.inr (.inr (.inr (fun _ => none)))))), (q_21, .inl (cA_13, 36, .inr (.inr (.inr (.inr (fun _ => none)))))), (q_23, .inl (cA_15, 26, .inl (fun _ => 0))), (q_32, .inl (cA_24, 4096, .inl (fun _ => 0))), (q_33, .inl (cA_25, 4096, .inl (fun _ => 0))), (q_34, .inl (cA_26, 169, .inr (.inl (fun _ => 0))))] H := hP
  have hD : va_D A [(h0, .inr (8, (fs26.set 29 (.ref q_34)))), (q_16, .inl (cA_8, 156, .inr (.inr (.inr (.inr (fun _ => none)))))), (q_21, .inl (cA_13, 36, .inr (.inr (.inr (.inr (fun _ => none)))))), (q_23, .inl (cA_15, 26, .inl (fun _ => 0))), (q_32, .inl (cA_24, 4096, .inl (fun _ => 0))), (q_33, .inl (cA_25, 4096, .inl (fun _ => 0))), (q_34, .inl (cA_26, 169, .inr (.inl (fun _ => 0))))] := hD
  obtain ⟨fs27, efs⟩ : ∃ z : List Value, z = (fs26.set 29 (.ref q_34)) := ⟨_, rfl⟩
  rw [← efs] at hP hD
  have hk_51 : fs27[51]? = some (.int 0) := by rw [efs]; exact (px_sn (by decide)).trans hk_51
  have hk_47 : fs27[47]? = some (.int 0) := by rw [efs]; exact (px_sn (by decide)).trans hk_47
  have hk_52 : fs27[52]? = some (.int 0) := by rw [efs]; exact (px_sn (by decide)).trans hk_52
  have hk_49 : fs27[49]? = some (.int 0) := by rw [efs]; exact (px_sn (by decide)).trans hk_49
  have hk_8 : fs27[8]? = some (.ref q_16) := by rw [efs]; exact (px_sn (by decide)).trans hk_8
  have hk_16 : fs27[16]? = some (.ref q_21) := by rw [efs]; exact (px_sn (by decide)).trans hk_16
  have hk_18 : fs27[18]? = some (.ref q_23) := by rw [efs]; exact (px_sn (by decide)).trans hk_18
  have hk_27 : fs27[27]? = some (.ref q_32) := by rw [efs]; exact (px_sn (by decide)).trans hk_27
  have hk_28 : fs27[28]? = some (.ref q_33) := by rw [efs]; exact (px_sn (by decide)).trans hk_28
  have hlen : fs27.length = 53 := by rw [efs]; exact px_sl hlen
  clear efs
  have hP := hP.sub (ws' := [(h0, .inr (8, fs27)), (q_16, .inl (cA_8, 156, .inr (.inr (.inr (.inr (fun _ => none)))))), (q_21, .inl (cA_13, 36, .inr (.inr (.inr (.inr (fun _ => none)))))), (q_23, .inl (cA_15, 26, .inl (fun _ => 0))), (q_32, .inl (cA_24, 4096, .inl (fun _ => 0))), (q_33, .inl (cA_25, 4096, .inl (fun _ => 0)))]) [0, 1, 2, 3, 4, 5] rfl
  have hD := hD.sub (ws' := [(h0, .inr (8, fs27)), (q_16, .inl (cA_8, 156, .inr (.inr (.inr (.inr (fun _ => none)))))), (q_21, .inl (cA_13, 36, .inr (.inr (.inr (.inr (fun _ => none)))))), (q_23, .inl (cA_15, 26, .inl (fun _ => 0))), (q_32, .inl (cA_24, 4096, .inl (fun _ => 0))), (q_33, .inl (cA_25, 4096, .inl (fun _ => 0)))]) [0, 1, 2, 3, 4, 5] (by decide) rfl
  refine lv_aload_n hx hb px_d10_253 rfl (lv_at hl 0 rfl) ?_
  refine lv_sipush (v := 169) hx hb px_d10_254 (by decide) ?_
  refine va_newa (atype := .long) (ty := .long) (n := 169) (N' := 169) (a0 := (169, .inr (.inl (fun _ => 0)))) hx hb (htw _ px_w4) rfl hK hP hD hS hA (fun _ => rfl) (by decide +kernel) (by decide +kernel) (by decide +kernel) (Nat.le_of_ble_eq_true rfl) (Nat.le_of_ble_eq_true rfl) px_d10_257 (fun q_35 cA_27 H hK hP hD hS => ?_)
  have hP : va_P (dC, dI) vwCl [(h0, .inr (8, fs27)), (q_16, .inl (cA_8, 156, .inr (.inr (.inr (.inr (fun _ => none)))))), (q_21, .inl (cA_13, 36, .inr (.inr (.inr (.inr (fun _ => none)))))), (q_23, .inl (cA_15, 26, .inl (fun _ => 0))), (q_32, .inl (cA_24, 4096, .inl (fun _ => 0))), (q_33, .inl (cA_25, 4096, .inl (fun _ => 0))), (q_35, .inl (cA_27, 169, .inr (.inl (fun _ => 0))))] H := hP
  have hD : va_D A [(h0, .inr (8, fs27)), (q_16, .inl (cA_8, 156, .inr (.inr (.inr (.inr (fun _ => none)))))), (q_21, .inl (cA_13, 36, .inr (.inr (.inr (.inr (fun _ => none)))))), (q_23, .inl (cA_15, 26, .inl (fun _ => 0))), (q_32, .inl (cA_24, 4096, .inl (fun _ => 0))), (q_33, .inl (cA_25, 4096, .inl (fun _ => 0))), (q_35, .inl (cA_27, 169, .inr (.inl (fun _ => 0))))] := hD
  have hK : va_K (dC, dI) vwCl [(cA, .int), (cA_1, .int), (cA_2, .int), (cA_3, .int), (cA_4, .int), (cA_5, .int), (cA_6, .int), (cA_7, .int), (cA_8, .object "MatroidDeskModel$Num"), (cA_9, .int), (cA_10, .int), (cA_11, .int), (cA_12, .int), (cA_13, .object "MatroidDeskModel$Num"), (cA_14, .int), (cA_15, .boolean), (cA_16, .int), (cA_17, .int), (cA_18, .int), (cA_19, .int), (cA_20, .int), (cA_21, .int), (cA_22, .byte), (cA_23, .byte), (cA_24, .int), (cA_25, .int), (cA_26, .long), (cA_27, .long)] s := hK
  refine W.widen (k := 36) (n := 317263) (Nat.le_of_ble_eq_true rfl) (Nat.le_of_ble_eq_true rfl) ?_
  refine va_putF (D := (dC, dI)) (ci := 8) (v := .ref q_35) (ty := (.array .long)) (C := "MatroidDeskModel") (T := px_T8) (N := 53) hx hb htw px_in8 px_ty8 px_tyok8 px_nm8 hown hK hP hD hS 0 rfl rfl 30 (by decide) (htw _ px_w277) (fun _ h9 => h9) rfl hin rfl (by decide +kernel) rfl rfl (by rw [hlen]; decide) px_d10_259 (fun H locs hP hD hS => ?_)
  have hP : va_P (dC, dI) vwCl [(h0, .inr (8, (fs27.set 30 (.ref q_35)))), (q_16, .inl (cA_8, 156, .inr (.inr (.inr (.inr (fun _ => none)))))), (q_21, .inl (cA_13, 36, .inr (.inr (.inr (.inr (fun _ => none)))))), (q_23, .inl (cA_15, 26, .inl (fun _ => 0))), (q_32, .inl (cA_24, 4096, .inl (fun _ => 0))), (q_33, .inl (cA_25, 4096, .inl (fun _ => 0))), (q_35, .inl (cA_27, 169, .inr (.inl (fun _ => 0))))] H := hP
  have hD : va_D A [(h0, .inr (8, (fs27.set 30 (.ref q_35)))), (q_16, .inl (cA_8, 156, .inr (.inr (.inr (.inr (fun _ => none)))))), (q_21, .inl (cA_13, 36, .inr (.inr (.inr (.inr (fun _ => none)))))), (q_23, .inl (cA_15, 26, .inl (fun _ => 0))), (q_32, .inl (cA_24, 4096, .inl (fun _ => 0))), (q_33, .inl (cA_25, 4096, .inl (fun _ => 0))), (q_35, .inl (cA_27, 169, .inr (.inl (fun _ => 0))))] := hD
  obtain ⟨fs28, efs⟩ : ∃ z : List Value, z = (fs27.set 30 (.ref q_35)) := ⟨_, rfl⟩
  rw [← efs] at hP hD
  have hk_51 : fs28[51]? = some (.int 0) := by rw [efs]; exact (px_sn (by decide)).trans hk_51
  have hk_47 : fs28[47]? = some (.int 0) := by rw [efs]; exact (px_sn (by decide)).trans hk_47
  have hk_52 : fs28[52]? = some (.int 0) := by rw [efs]; exact (px_sn (by decide)).trans hk_52
  have hk_49 : fs28[49]? = some (.int 0) := by rw [efs]; exact (px_sn (by decide)).trans hk_49
  have hk_8 : fs28[8]? = some (.ref q_16) := by rw [efs]; exact (px_sn (by decide)).trans hk_8
  have hk_16 : fs28[16]? = some (.ref q_21) := by rw [efs]; exact (px_sn (by decide)).trans hk_16
  have hk_18 : fs28[18]? = some (.ref q_23) := by rw [efs]; exact (px_sn (by decide)).trans hk_18
  have hk_27 : fs28[27]? = some (.ref q_32) := by rw [efs]; exact (px_sn (by decide)).trans hk_27
  have hk_28 : fs28[28]? = some (.ref q_33) := by rw [efs]; exact (px_sn (by decide)).trans hk_28
  have hlen : fs28.length = 53 := by rw [efs]; exact px_sl hlen
  clear efs
  have hP := hP.sub (ws' := [(h0, .inr (8, fs28)), (q_16, .inl (cA_8, 156, .inr (.inr (.inr (.inr (fun _ => none)))))), (q_21, .inl (cA_13, 36, .inr (.inr (.inr (.inr (fun _ => none)))))), (q_23, .inl (cA_15, 26, .inl (fun _ => 0))), (q_32, .inl (cA_24, 4096, .inl (fun _ => 0))), (q_33, .inl (cA_25, 4096, .inl (fun _ => 0)))]) [0, 1, 2, 3, 4, 5] rfl
  have hD := hD.sub (ws' := [(h0, .inr (8, fs28)), (q_16, .inl (cA_8, 156, .inr (.inr (.inr (.inr (fun _ => none)))))), (q_21, .inl (cA_13, 36, .inr (.inr (.inr (.inr (fun _ => none)))))), (q_23, .inl (cA_15, 26, .inl (fun _ => 0))), (q_32, .inl (cA_24, 4096, .inl (fun _ => 0))), (q_33, .inl (cA_25, 4096, .inl (fun _ => 0)))]) [0, 1, 2, 3, 4, 5] (by decide) rfl
  refine lv_aload_n hx hb px_d10_262 rfl (lv_at hl 0 rfl) ?_
  refine lv_bipush (v := 13) hx hb px_d10_263 (by decide) ?_
  refine va_newa (atype := .int) (ty := .int) (n := 13) (N' := 13) (a0 := (13, .inl (fun _ => 0))) hx hb (htw _ px_w2) rfl hK hP hD hS hA (fun _ => rfl) (by decide +kernel) (by decide +kernel) (by decide +kernel) (Nat.le_of_ble_eq_true rfl) (Nat.le_of_ble_eq_true rfl) px_d10_265 (fun q_36 cA_28 H hK hP hD hS => ?_)
  have hP : va_P (dC, dI) vwCl [(h0, .inr (8, fs28)), (q_16, .inl (cA_8, 156, .inr (.inr (.inr (.inr (fun _ => none)))))), (q_21, .inl (cA_13, 36, .inr (.inr (.inr (.inr (fun _ => none)))))), (q_23, .inl (cA_15, 26, .inl (fun _ => 0))), (q_32, .inl (cA_24, 4096, .inl (fun _ => 0))), (q_33, .inl (cA_25, 4096, .inl (fun _ => 0))), (q_36, .inl (cA_28, 13, .inl (fun _ => 0)))] H := hP
  have hD : va_D A [(h0, .inr (8, fs28)), (q_16, .inl (cA_8, 156, .inr (.inr (.inr (.inr (fun _ => none)))))), (q_21, .inl (cA_13, 36, .inr (.inr (.inr (.inr (fun _ => none)))))), (q_23, .inl (cA_15, 26, .inl (fun _ => 0))), (q_32, .inl (cA_24, 4096, .inl (fun _ => 0))), (q_33, .inl (cA_25, 4096, .inl (fun _ => 0))), (q_36, .inl (cA_28, 13, .inl (fun _ => 0)))] := hD
  have hK : va_K (dC, dI) vwCl [(cA, .int), (cA_1, .int), (cA_2, .int), (cA_3, .int), (cA_4, .int), (cA_5, .int), (cA_6, .int), (cA_7, .int), (cA_8, .object "MatroidDeskModel$Num"), (cA_9, .int), (cA_10, .int), (cA_11, .int), (cA_12, .int), (cA_13, .object "MatroidDeskModel$Num"), (cA_14, .int), (cA_15, .boolean), (cA_16, .int), (cA_17, .int), (cA_18, .int), (cA_19, .int), (cA_20, .int), (cA_21, .int), (cA_22, .byte), (cA_23, .byte), (cA_24, .int), (cA_25, .int), (cA_26, .long), (cA_27, .long), (cA_28, .int)] s := hK
  refine W.widen (k := 37) (n := 317276) (Nat.le_of_ble_eq_true rfl) (Nat.le_of_ble_eq_true rfl) ?_
  refine va_putF (D := (dC, dI)) (ci := 8) (v := .ref q_36) (ty := (.array .int)) (C := "MatroidDeskModel") (T := px_T8) (N := 53) hx hb htw px_in8 px_ty8 px_tyok8 px_nm8 hown hK hP hD hS 0 rfl rfl 31 (by decide) (htw _ px_w278) (fun _ h9 => h9) rfl hin rfl (by decide +kernel) rfl rfl (by rw [hlen]; decide) px_d10_267 (fun H locs hP hD hS => ?_)
  have hP : va_P (dC, dI) vwCl [(h0, .inr (8, (fs28.set 31 (.ref q_36)))), (q_16, .inl (cA_8, 156, .inr (.inr (.inr (.inr (fun _ => none)))))), (q_21, .inl (cA_13, 36, .inr (.inr (.inr (.inr (fun _ => none)))))), (q_23, .inl (cA_15, 26, .inl (fun _ => 0))), (q_32, .inl (cA_24, 4096, .inl (fun _ => 0))), (q_33, .inl (cA_25, 4096, .inl (fun _ => 0))), (q_36, .inl (cA_28, 13, .inl (fun _ => 0)))] H := hP
  have hD : va_D A [(h0, .inr (8, (fs28.set 31 (.ref q_36)))), (q_16, .inl (cA_8, 156, .inr (.inr (.inr (.inr (fun _ => none)))))), (q_21, .inl (cA_13, 36, .inr (.inr (.inr (.inr (fun _ => none)))))), (q_23, .inl (cA_15, 26, .inl (fun _ => 0))), (q_32, .inl (cA_24, 4096, .inl (fun _ => 0))), (q_33, .inl (cA_25, 4096, .inl (fun _ => 0))), (q_36, .inl (cA_28, 13, .inl (fun _ => 0)))] := hD
  obtain ⟨fs29, efs⟩ : ∃ z : List Value, z = (fs28.set 31 (.ref q_36)) := ⟨_, rfl⟩
  rw [← efs] at hP hD
  have hk_51 : fs29[51]? = some (.int 0) := by rw [efs]; exact (px_sn (by decide)).trans hk_51
  have hk_47 : fs29[47]? = some (.int 0) := by rw [efs]; exact (px_sn (by decide)).trans hk_47
  have hk_52 : fs29[52]? = some (.int 0) := by rw [efs]; exact (px_sn (by decide)).trans hk_52
  have hk_49 : fs29[49]? = some (.int 0) := by rw [efs]; exact (px_sn (by decide)).trans hk_49
  have hk_8 : fs29[8]? = some (.ref q_16) := by rw [efs]; exact (px_sn (by decide)).trans hk_8
  have hk_16 : fs29[16]? = some (.ref q_21) := by rw [efs]; exact (px_sn (by decide)).trans hk_16
  have hk_18 : fs29[18]? = some (.ref q_23) := by rw [efs]; exact (px_sn (by decide)).trans hk_18
  have hk_27 : fs29[27]? = some (.ref q_32) := by rw [efs]; exact (px_sn (by decide)).trans hk_27
  have hk_28 : fs29[28]? = some (.ref q_33) := by rw [efs]; exact (px_sn (by decide)).trans hk_28
  have hlen : fs29.length = 53 := by rw [efs]; exact px_sl hlen
  clear efs
  have hP := hP.sub (ws' := [(h0, .inr (8, fs29)), (q_16, .inl (cA_8, 156, .inr (.inr (.inr (.inr (fun _ => none)))))), (q_21, .inl (cA_13, 36, .inr (.inr (.inr (.inr (fun _ => none)))))), (q_23, .inl (cA_15, 26, .inl (fun _ => 0))), (q_32, .inl (cA_24, 4096, .inl (fun _ => 0))), (q_33, .inl (cA_25, 4096, .inl (fun _ => 0)))]) [0, 1, 2, 3, 4, 5] rfl
  have hD := hD.sub (ws' := [(h0, .inr (8, fs29)), (q_16, .inl (cA_8, 156, .inr (.inr (.inr (.inr (fun _ => none)))))), (q_21, .inl (cA_13, 36, .inr (.inr (.inr (.inr (fun _ => none)))))), (q_23, .inl (cA_15, 26, .inl (fun _ => 0))), (q_32, .inl (cA_24, 4096, .inl (fun _ => 0))), (q_33, .inl (cA_25, 4096, .inl (fun _ => 0)))]) [0, 1, 2, 3, 4, 5] (by decide) rfl
  refine lv_aload_n hx hb px_d10_270 rfl (lv_at hl 0 rfl) ?_
  refine lv_bipush (v := 12) hx hb px_d10_271 (by decide) ?_
  refine va_newa (atype := .int) (ty := .int) (n := 12) (N' := 12) (a0 := (12, .inl (fun _ => 0))) hx hb (htw _ px_w2) rfl hK hP hD hS hA (fun _ => rfl) (by decide +kernel) (by decide +kernel) (by decide +kernel) (Nat.le_of_ble_eq_true rfl) (Nat.le_of_ble_eq_true rfl) px_d10_273 (fun q_37 cA_29 H hK hP hD hS => ?_)
  have hP : va_P (dC, dI) vwCl [(h0, .inr (8, fs29)), (q_16, .inl (cA_8, 156, .inr (.inr (.inr (.inr (fun _ => none)))))), (q_21, .inl (cA_13, 36, .inr (.inr (.inr (.inr (fun _ => none)))))), (q_23, .inl (cA_15, 26, .inl (fun _ => 0))), (q_32, .inl (cA_24, 4096, .inl (fun _ => 0))), (q_33, .inl (cA_25, 4096, .inl (fun _ => 0))), (q_37, .inl (cA_29, 12, .inl (fun _ => 0)))] H := hP
  have hD : va_D A [(h0, .inr (8, fs29)), (q_16, .inl (cA_8, 156, .inr (.inr (.inr (.inr (fun _ => none)))))), (q_21, .inl (cA_13, 36, .inr (.inr (.inr (.inr (fun _ => none)))))), (q_23, .inl (cA_15, 26, .inl (fun _ => 0))), (q_32, .inl (cA_24, 4096, .inl (fun _ => 0))), (q_33, .inl (cA_25, 4096, .inl (fun _ => 0))), (q_37, .inl (cA_29, 12, .inl (fun _ => 0)))] := hD
  have hK : va_K (dC, dI) vwCl [(cA, .int), (cA_1, .int), (cA_2, .int), (cA_3, .int), (cA_4, .int), (cA_5, .int), (cA_6, .int), (cA_7, .int), (cA_8, .object "MatroidDeskModel$Num"), (cA_9, .int), (cA_10, .int), (cA_11, .int), (cA_12, .int), (cA_13, .object "MatroidDeskModel$Num"), (cA_14, .int), (cA_15, .boolean), (cA_16, .int), (cA_17, .int), (cA_18, .int), (cA_19, .int), (cA_20, .int), (cA_21, .int), (cA_22, .byte), (cA_23, .byte), (cA_24, .int), (cA_25, .int), (cA_26, .long), (cA_27, .long), (cA_28, .int), (cA_29, .int)] s := hK
  refine W.widen (k := 38) (n := 317288) (Nat.le_of_ble_eq_true rfl) (Nat.le_of_ble_eq_true rfl) ?_
  refine va_putF (D := (dC, dI)) (ci := 8) (v := .ref q_37) (ty := (.array .int)) (C := "MatroidDeskModel") (T := px_T8) (N := 53) hx hb htw px_in8 px_ty8 px_tyok8 px_nm8 hown hK hP hD hS 0 rfl rfl 34 (by decide) (htw _ px_w279) (fun _ h9 => h9) rfl hin rfl (by decide +kernel) rfl rfl (by rw [hlen]; decide) px_d10_275 (fun H locs hP hD hS => ?_)
  have hP : va_P (dC, dI) vwCl [(h0, .inr (8, (fs29.set 34 (.ref q_37)))), (q_16, .inl (cA_8, 156, .inr (.inr (.inr (.inr (fun _ => none)))))), (q_21, .inl (cA_13, 36, .inr (.inr (.inr (.inr (fun _ => none)))))), (q_23, .inl (cA_15, 26, .inl (fun _ => 0))), (q_32, .inl (cA_24, 4096, .inl (fun _ => 0))), (q_33, .inl (cA_25, 4096, .inl (fun _ => 0))), (q_37, .inl (cA_29, 12, .inl (fun _ => 0)))] H := hP
  have hD : va_D A [(h0, .inr (8, (fs29.set 34 (.ref q_37)))), (q_16, .inl (cA_8, 156, .inr (.inr (.inr (.inr (fun _ => none)))))), (q_21, .inl (cA_13, 36, .inr (.inr (.inr (.inr (fun _ => none)))))), (q_23, .inl (cA_15, 26, .inl (fun _ => 0))), (q_32, .inl (cA_24, 4096, .inl (fun _ => 0))), (q_33, .inl (cA_25, 4096, .inl (fun _ => 0))), (q_37, .inl (cA_29, 12, .inl (fun _ => 0)))] := hD
  obtain ⟨fs30, efs⟩ : ∃ z : List Value, z = (fs29.set 34 (.ref q_37)) := ⟨_, rfl⟩
  rw [← efs] at hP hD
  have hk_51 : fs30[51]? = some (.int 0) := by rw [efs]; exact (px_sn (by decide)).trans hk_51
  have hk_47 : fs30[47]? = some (.int 0) := by rw [efs]; exact (px_sn (by decide)).trans hk_47
  have hk_52 : fs30[52]? = some (.int 0) := by rw [efs]; exact (px_sn (by decide)).trans hk_52
  have hk_49 : fs30[49]? = some (.int 0) := by rw [efs]; exact (px_sn (by decide)).trans hk_49
  have hk_8 : fs30[8]? = some (.ref q_16) := by rw [efs]; exact (px_sn (by decide)).trans hk_8
  have hk_16 : fs30[16]? = some (.ref q_21) := by rw [efs]; exact (px_sn (by decide)).trans hk_16
  have hk_18 : fs30[18]? = some (.ref q_23) := by rw [efs]; exact (px_sn (by decide)).trans hk_18
  have hk_27 : fs30[27]? = some (.ref q_32) := by rw [efs]; exact (px_sn (by decide)).trans hk_27
  have hk_28 : fs30[28]? = some (.ref q_33) := by rw [efs]; exact (px_sn (by decide)).trans hk_28
  have hlen : fs30.length = 53 := by rw [efs]; exact px_sl hlen
  clear efs
  have hP := hP.sub (ws' := [(h0, .inr (8, fs30)), (q_16, .inl (cA_8, 156, .inr (.inr (.inr (.inr (fun _ => none)))))), (q_21, .inl (cA_13, 36, .inr (.inr (.inr (.inr (fun _ => none)))))), (q_23, .inl (cA_15, 26, .inl (fun _ => 0))), (q_32, .inl (cA_24, 4096, .inl (fun _ => 0))), (q_33, .inl (cA_25, 4096, .inl (fun _ => 0)))]) [0, 1, 2, 3, 4, 5] rfl
  have hD := hD.sub (ws' := [(h0, .inr (8, fs30)), (q_16, .inl (cA_8, 156, .inr (.inr (.inr (.inr (fun _ => none)))))), (q_21, .inl (cA_13, 36, .inr (.inr (.inr (.inr (fun _ => none)))))), (q_23, .inl (cA_15, 26, .inl (fun _ => 0))), (q_32, .inl (cA_24, 4096, .inl (fun _ => 0))), (q_33, .inl (cA_25, 4096, .inl (fun _ => 0)))]) [0, 1, 2, 3, 4, 5] (by decide) rfl
  refine lv_aload_n hx hb px_d10_278 rfl (lv_at hl 0 rfl) ?_
  refine lv_sipush (v := 169) hx hb px_d10_279 (by decide) ?_
  refine va_newa (atype := .int) (ty := .int) (n := 169) (N' := 169) (a0 := (169, .inl (fun _ => 0))) hx hb (htw _ px_w2) rfl hK hP hD hS hA (fun _ => rfl) (by decide +kernel) (by decide +kernel) (by decide +kernel) (Nat.le_of_ble_eq_true rfl) (Nat.le_of_ble_eq_true rfl) px_d10_282 (fun q_38 cA_30 H hK hP hD hS => ?_)
  have hP : va_P (dC, dI) vwCl [(h0, .inr (8, fs30)), (q_16, .inl (cA_8, 156, .inr (.inr (.inr (.inr (fun _ => none)))))), (q_21, .inl (cA_13, 36, .inr (.inr (.inr (.inr (fun _ => none)))))), (q_23, .inl (cA_15, 26, .inl (fun _ => 0))), (q_32, .inl (cA_24, 4096, .inl (fun _ => 0))), (q_33, .inl (cA_25, 4096, .inl (fun _ => 0))), (q_38, .inl (cA_30, 169, .inl (fun _ => 0)))] H := hP
  have hD : va_D A [(h0, .inr (8, fs30)), (q_16, .inl (cA_8, 156, .inr (.inr (.inr (.inr (fun _ => none)))))), (q_21, .inl (cA_13, 36, .inr (.inr (.inr (.inr (fun _ => none)))))), (q_23, .inl (cA_15, 26, .inl (fun _ => 0))), (q_32, .inl (cA_24, 4096, .inl (fun _ => 0))), (q_33, .inl (cA_25, 4096, .inl (fun _ => 0))), (q_38, .inl (cA_30, 169, .inl (fun _ => 0)))] := hD
  have hK : va_K (dC, dI) vwCl [(cA, .int), (cA_1, .int), (cA_2, .int), (cA_3, .int), (cA_4, .int), (cA_5, .int), (cA_6, .int), (cA_7, .int), (cA_8, .object "MatroidDeskModel$Num"), (cA_9, .int), (cA_10, .int), (cA_11, .int), (cA_12, .int), (cA_13, .object "MatroidDeskModel$Num"), (cA_14, .int), (cA_15, .boolean), (cA_16, .int), (cA_17, .int), (cA_18, .int), (cA_19, .int), (cA_20, .int), (cA_21, .int), (cA_22, .byte), (cA_23, .byte), (cA_24, .int), (cA_25, .int), (cA_26, .long), (cA_27, .long), (cA_28, .int), (cA_29, .int), (cA_30, .int)] s := hK
  refine W.widen (k := 39) (n := 317457) (Nat.le_of_ble_eq_true rfl) (Nat.le_of_ble_eq_true rfl) ?_
  refine va_putF (D := (dC, dI)) (ci := 8) (v := .ref q_38) (ty := (.array .int)) (C := "MatroidDeskModel") (T := px_T8) (N := 53) hx hb htw px_in8 px_ty8 px_tyok8 px_nm8 hown hK hP hD hS 0 rfl rfl 35 (by decide) (htw _ px_w280) (fun _ h9 => h9) rfl hin rfl (by decide +kernel) rfl rfl (by rw [hlen]; decide) px_d10_284 (fun H locs hP hD hS => ?_)
  have hP : va_P (dC, dI) vwCl [(h0, .inr (8, (fs30.set 35 (.ref q_38)))), (q_16, .inl (cA_8, 156, .inr (.inr (.inr (.inr (fun _ => none)))))), (q_21, .inl (cA_13, 36, .inr (.inr (.inr (.inr (fun _ => none)))))), (q_23, .inl (cA_15, 26, .inl (fun _ => 0))), (q_32, .inl (cA_24, 4096, .inl (fun _ => 0))), (q_33, .inl (cA_25, 4096, .inl (fun _ => 0))), (q_38, .inl (cA_30, 169, .inl (fun _ => 0)))] H := hP
  have hD : va_D A [(h0, .inr (8, (fs30.set 35 (.ref q_38)))), (q_16, .inl (cA_8, 156, .inr (.inr (.inr (.inr (fun _ => none)))))), (q_21, .inl (cA_13, 36, .inr (.inr (.inr (.inr (fun _ => none)))))), (q_23, .inl (cA_15, 26, .inl (fun _ => 0))), (q_32, .inl (cA_24, 4096, .inl (fun _ => 0))), (q_33, .inl (cA_25, 4096, .inl (fun _ => 0))), (q_38, .inl (cA_30, 169, .inl (fun _ => 0)))] := hD
  obtain ⟨fs31, efs⟩ : ∃ z : List Value, z = (fs30.set 35 (.ref q_38)) := ⟨_, rfl⟩
  rw [← efs] at hP hD
  have hk_51 : fs31[51]? = some (.int 0) := by rw [efs]; exact (px_sn (by decide)).trans hk_51
  have hk_47 : fs31[47]? = some (.int 0) := by rw [efs]; exact (px_sn (by decide)).trans hk_47
  have hk_52 : fs31[52]? = some (.int 0) := by rw [efs]; exact (px_sn (by decide)).trans hk_52
  have hk_49 : fs31[49]? = some (.int 0) := by rw [efs]; exact (px_sn (by decide)).trans hk_49
  have hk_8 : fs31[8]? = some (.ref q_16) := by rw [efs]; exact (px_sn (by decide)).trans hk_8
  have hk_16 : fs31[16]? = some (.ref q_21) := by rw [efs]; exact (px_sn (by decide)).trans hk_16
  have hk_18 : fs31[18]? = some (.ref q_23) := by rw [efs]; exact (px_sn (by decide)).trans hk_18
  have hk_27 : fs31[27]? = some (.ref q_32) := by rw [efs]; exact (px_sn (by decide)).trans hk_27
  have hk_28 : fs31[28]? = some (.ref q_33) := by rw [efs]; exact (px_sn (by decide)).trans hk_28
  have hlen : fs31.length = 53 := by rw [efs]; exact px_sl hlen
  clear efs
  have hP := hP.sub (ws' := [(h0, .inr (8, fs31)), (q_16, .inl (cA_8, 156, .inr (.inr (.inr (.inr (fun _ => none)))))), (q_21, .inl (cA_13, 36, .inr (.inr (.inr (.inr (fun _ => none)))))), (q_23, .inl (cA_15, 26, .inl (fun _ => 0))), (q_32, .inl (cA_24, 4096, .inl (fun _ => 0))), (q_33, .inl (cA_25, 4096, .inl (fun _ => 0)))]) [0, 1, 2, 3, 4, 5] rfl
  have hD := hD.sub (ws' := [(h0, .inr (8, fs31)), (q_16, .inl (cA_8, 156, .inr (.inr (.inr (.inr (fun _ => none)))))), (q_21, .inl (cA_13, 36, .inr (.inr (.inr (.inr (fun _ => none)))))), (q_23, .inl (cA_15, 26, .inl (fun _ => 0))), (q_32, .inl (cA_24, 4096, .inl (fun _ => 0))), (q_33, .inl (cA_25, 4096, .inl (fun _ => 0)))]) [0, 1, 2, 3, 4, 5] (by decide) rfl
  refine lv_aload_n hx hb px_d10_287 rfl (lv_at hl 0 rfl) ?_
  refine lv_sipush (v := 16384) hx hb px_d10_288 (by decide) ?_
  refine va_newa (atype := .byte) (ty := .byte) (n := 16384) (N' := 16384) (a0 := (16384, .inl (fun _ => 0))) hx hb (htw _ px_w3) rfl hK hP hD hS hA (fun _ => rfl) (by decide +kernel) (by decide +kernel) (by decide +kernel) (Nat.le_of_ble_eq_true rfl) (Nat.le_of_ble_eq_true rfl) px_d10_291 (fun q_39 cA_31 H hK hP hD hS => ?_)
  have hP : va_P (dC, dI) vwCl [(h0, .inr (8, fs31)), (q_16, .inl (cA_8, 156, .inr (.inr (.inr (.inr (fun _ => none)))))), (q_21, .inl (cA_13, 36, .inr (.inr (.inr (.inr (fun _ => none)))))), (q_23, .inl (cA_15, 26, .inl (fun _ => 0))), (q_32, .inl (cA_24, 4096, .inl (fun _ => 0))), (q_33, .inl (cA_25, 4096, .inl (fun _ => 0))), (q_39, .inl (cA_31, 16384, .inl (fun _ => 0)))] H := hP
  have hD : va_D A [(h0, .inr (8, fs31)), (q_16, .inl (cA_8, 156, .inr (.inr (.inr (.inr (fun _ => none)))))), (q_21, .inl (cA_13, 36, .inr (.inr (.inr (.inr (fun _ => none)))))), (q_23, .inl (cA_15, 26, .inl (fun _ => 0))), (q_32, .inl (cA_24, 4096, .inl (fun _ => 0))), (q_33, .inl (cA_25, 4096, .inl (fun _ => 0))), (q_39, .inl (cA_31, 16384, .inl (fun _ => 0)))] := hD
  have hK : va_K (dC, dI) vwCl [(cA, .int), (cA_1, .int), (cA_2, .int), (cA_3, .int), (cA_4, .int), (cA_5, .int), (cA_6, .int), (cA_7, .int), (cA_8, .object "MatroidDeskModel$Num"), (cA_9, .int), (cA_10, .int), (cA_11, .int), (cA_12, .int), (cA_13, .object "MatroidDeskModel$Num"), (cA_14, .int), (cA_15, .boolean), (cA_16, .int), (cA_17, .int), (cA_18, .int), (cA_19, .int), (cA_20, .int), (cA_21, .int), (cA_22, .byte), (cA_23, .byte), (cA_24, .int), (cA_25, .int), (cA_26, .long), (cA_27, .long), (cA_28, .int), (cA_29, .int), (cA_30, .int), (cA_31, .byte)] s := hK
  refine W.widen (k := 40) (n := 333841) (Nat.le_of_ble_eq_true rfl) (Nat.le_of_ble_eq_true rfl) ?_
  refine va_putF (D := (dC, dI)) (ci := 8) (v := .ref q_39) (ty := (.array .byte)) (C := "MatroidDeskModel") (T := px_T8) (N := 53) hx hb htw px_in8 px_ty8 px_tyok8 px_nm8 hown hK hP hD hS 0 rfl rfl 36 (by decide) (htw _ px_w281) (fun _ h9 => h9) rfl hin rfl (by decide +kernel) rfl rfl (by rw [hlen]; decide) px_d10_293 (fun H locs hP hD hS => ?_)
  have hP : va_P (dC, dI) vwCl [(h0, .inr (8, (fs31.set 36 (.ref q_39)))), (q_16, .inl (cA_8, 156, .inr (.inr (.inr (.inr (fun _ => none)))))), (q_21, .inl (cA_13, 36, .inr (.inr (.inr (.inr (fun _ => none)))))), (q_23, .inl (cA_15, 26, .inl (fun _ => 0))), (q_32, .inl (cA_24, 4096, .inl (fun _ => 0))), (q_33, .inl (cA_25, 4096, .inl (fun _ => 0))), (q_39, .inl (cA_31, 16384, .inl (fun _ => 0)))] H := hP
  have hD : va_D A [(h0, .inr (8, (fs31.set 36 (.ref q_39)))), (q_16, .inl (cA_8, 156, .inr (.inr (.inr (.inr (fun _ => none)))))), (q_21, .inl (cA_13, 36, .inr (.inr (.inr (.inr (fun _ => none)))))), (q_23, .inl (cA_15, 26, .inl (fun _ => 0))), (q_32, .inl (cA_24, 4096, .inl (fun _ => 0))), (q_33, .inl (cA_25, 4096, .inl (fun _ => 0))), (q_39, .inl (cA_31, 16384, .inl (fun _ => 0)))] := hD
  obtain ⟨fs32, efs⟩ : ∃ z : List Value, z = (fs31.set 36 (.ref q_39)) := ⟨_, rfl⟩
  rw [← efs] at hP hD
  have hk_51 : fs32[51]? = some (.int 0) := by rw [efs]; exact (px_sn (by decide)).trans hk_51
  have hk_47 : fs32[47]? = some (.int 0) := by rw [efs]; exact (px_sn (by decide)).trans hk_47
  have hk_52 : fs32[52]? = some (.int 0) := by rw [efs]; exact (px_sn (by decide)).trans hk_52
  have hk_49 : fs32[49]? = some (.int 0) := by rw [efs]; exact (px_sn (by decide)).trans hk_49
  have hk_8 : fs32[8]? = some (.ref q_16) := by rw [efs]; exact (px_sn (by decide)).trans hk_8
  have hk_16 : fs32[16]? = some (.ref q_21) := by rw [efs]; exact (px_sn (by decide)).trans hk_16
  have hk_18 : fs32[18]? = some (.ref q_23) := by rw [efs]; exact (px_sn (by decide)).trans hk_18
  have hk_27 : fs32[27]? = some (.ref q_32) := by rw [efs]; exact (px_sn (by decide)).trans hk_27
  have hk_28 : fs32[28]? = some (.ref q_33) := by rw [efs]; exact (px_sn (by decide)).trans hk_28
  have hlen : fs32.length = 53 := by rw [efs]; exact px_sl hlen
  clear efs
  have hP := hP.sub (ws' := [(h0, .inr (8, fs32)), (q_16, .inl (cA_8, 156, .inr (.inr (.inr (.inr (fun _ => none)))))), (q_21, .inl (cA_13, 36, .inr (.inr (.inr (.inr (fun _ => none)))))), (q_23, .inl (cA_15, 26, .inl (fun _ => 0))), (q_32, .inl (cA_24, 4096, .inl (fun _ => 0))), (q_33, .inl (cA_25, 4096, .inl (fun _ => 0)))]) [0, 1, 2, 3, 4, 5] rfl
  have hD := hD.sub (ws' := [(h0, .inr (8, fs32)), (q_16, .inl (cA_8, 156, .inr (.inr (.inr (.inr (fun _ => none)))))), (q_21, .inl (cA_13, 36, .inr (.inr (.inr (.inr (fun _ => none)))))), (q_23, .inl (cA_15, 26, .inl (fun _ => 0))), (q_32, .inl (cA_24, 4096, .inl (fun _ => 0))), (q_33, .inl (cA_25, 4096, .inl (fun _ => 0)))]) [0, 1, 2, 3, 4, 5] (by decide) rfl
  refine lv_aload_n hx hb px_d10_296 rfl (lv_at hl 0 rfl) ?_
  refine lv_iconst (v := (-1)) hx hb px_d10_297 (by decide) ?_
  refine va_put (D := (dC, dI)) (ci := 8) (v := .int (-1)) (ty := .int) (C := "MatroidDeskModel") (T := px_T8) (N := 53) hx hb htw px_in8 px_ty8 px_tyok8 px_nm8 hown hK hP hD hS 0 rfl rfl 42 (by decide) (htw _ px_w282) (fun _ h9 => h9) rfl (by decide +kernel) rfl rfl (by rw [hlen]; decide) px_d10_298 (fun H locs hP hD hS => ?_)
  have hP : va_P (dC, dI) vwCl [(h0, .inr (8, (fs32.set 42 (.int (-1))))), (q_16, .inl (cA_8, 156, .inr (.inr (.inr (.inr (fun _ => none)))))), (q_21, .inl (cA_13, 36, .inr (.inr (.inr (.inr (fun _ => none)))))), (q_23, .inl (cA_15, 26, .inl (fun _ => 0))), (q_32, .inl (cA_24, 4096, .inl (fun _ => 0))), (q_33, .inl (cA_25, 4096, .inl (fun _ => 0)))] H := hP
  have hD : va_D A [(h0, .inr (8, (fs32.set 42 (.int (-1))))), (q_16, .inl (cA_8, 156, .inr (.inr (.inr (.inr (fun _ => none)))))), (q_21, .inl (cA_13, 36, .inr (.inr (.inr (.inr (fun _ => none)))))), (q_23, .inl (cA_15, 26, .inl (fun _ => 0))), (q_32, .inl (cA_24, 4096, .inl (fun _ => 0))), (q_33, .inl (cA_25, 4096, .inl (fun _ => 0)))] := hD
  obtain ⟨fs33, efs⟩ : ∃ z : List Value, z = (fs32.set 42 (.int (-1))) := ⟨_, rfl⟩
  rw [← efs] at hP hD
  have hk_51 : fs33[51]? = some (.int 0) := by rw [efs]; exact (px_sn (by decide)).trans hk_51
  have hk_47 : fs33[47]? = some (.int 0) := by rw [efs]; exact (px_sn (by decide)).trans hk_47
  have hk_52 : fs33[52]? = some (.int 0) := by rw [efs]; exact (px_sn (by decide)).trans hk_52
  have hk_49 : fs33[49]? = some (.int 0) := by rw [efs]; exact (px_sn (by decide)).trans hk_49
  have hk_8 : fs33[8]? = some (.ref q_16) := by rw [efs]; exact (px_sn (by decide)).trans hk_8
  have hk_16 : fs33[16]? = some (.ref q_21) := by rw [efs]; exact (px_sn (by decide)).trans hk_16
  have hk_18 : fs33[18]? = some (.ref q_23) := by rw [efs]; exact (px_sn (by decide)).trans hk_18
  have hk_27 : fs33[27]? = some (.ref q_32) := by rw [efs]; exact (px_sn (by decide)).trans hk_27
  have hk_28 : fs33[28]? = some (.ref q_33) := by rw [efs]; exact (px_sn (by decide)).trans hk_28
  have hk_42 : fs33[42]? = some (.int (-1)) := by rw [efs]; exact px_ss hlen (by decide)
  have hlen : fs33.length = 53 := by rw [efs]; exact px_sl hlen
  clear efs
  refine lv_aload_n hx hb px_d10_301 rfl (lv_at hl 0 rfl) ?_
  refine lv_sipush (v := 256) hx hb px_d10_302 (by decide) ?_
  refine va_newa (atype := .int) (ty := .int) (n := 256) (N' := 256) (a0 := (256, .inl (fun _ => 0))) hx hb (htw _ px_w2) rfl hK hP hD hS hA (fun _ => rfl) (by decide +kernel) (by decide +kernel) (by decide +kernel) (Nat.le_of_ble_eq_true rfl) (Nat.le_of_ble_eq_true rfl) px_d10_305 (fun q_40 cA_32 H hK hP hD hS => ?_)
  have hP : va_P (dC, dI) vwCl [(h0, .inr (8, fs33)), (q_16, .inl (cA_8, 156, .inr (.inr (.inr (.inr (fun _ => none)))))), (q_21, .inl (cA_13, 36, .inr (.inr (.inr (.inr (fun _ => none)))))), (q_23, .inl (cA_15, 26, .inl (fun _ => 0))), (q_32, .inl (cA_24, 4096, .inl (fun _ => 0))), (q_33, .inl (cA_25, 4096, .inl (fun _ => 0))), (q_40, .inl (cA_32, 256, .inl (fun _ => 0)))] H := hP
  have hD : va_D A [(h0, .inr (8, fs33)), (q_16, .inl (cA_8, 156, .inr (.inr (.inr (.inr (fun _ => none)))))), (q_21, .inl (cA_13, 36, .inr (.inr (.inr (.inr (fun _ => none)))))), (q_23, .inl (cA_15, 26, .inl (fun _ => 0))), (q_32, .inl (cA_24, 4096, .inl (fun _ => 0))), (q_33, .inl (cA_25, 4096, .inl (fun _ => 0))), (q_40, .inl (cA_32, 256, .inl (fun _ => 0)))] := hD
  have hK : va_K (dC, dI) vwCl [(cA, .int), (cA_1, .int), (cA_2, .int), (cA_3, .int), (cA_4, .int), (cA_5, .int), (cA_6, .int), (cA_7, .int), (cA_8, .object "MatroidDeskModel$Num"), (cA_9, .int), (cA_10, .int), (cA_11, .int), (cA_12, .int), (cA_13, .object "MatroidDeskModel$Num"), (cA_14, .int), (cA_15, .boolean), (cA_16, .int), (cA_17, .int), (cA_18, .int), (cA_19, .int), (cA_20, .int), (cA_21, .int), (cA_22, .byte), (cA_23, .byte), (cA_24, .int), (cA_25, .int), (cA_26, .long), (cA_27, .long), (cA_28, .int), (cA_29, .int), (cA_30, .int), (cA_31, .byte), (cA_32, .int)] s := hK
  refine W.widen (k := 41) (n := 334097) (Nat.le_of_ble_eq_true rfl) (Nat.le_of_ble_eq_true rfl) ?_
  refine va_putF (D := (dC, dI)) (ci := 8) (v := .ref q_40) (ty := (.array .int)) (C := "MatroidDeskModel") (T := px_T8) (N := 53) hx hb htw px_in8 px_ty8 px_tyok8 px_nm8 hown hK hP hD hS 0 rfl rfl 44 (by decide) (htw _ px_w283) (fun _ h9 => h9) rfl hin rfl (by decide +kernel) rfl rfl (by rw [hlen]; decide) px_d10_307 (fun H locs hP hD hS => ?_)
  have hP : va_P (dC, dI) vwCl [(h0, .inr (8, (fs33.set 44 (.ref q_40)))), (q_16, .inl (cA_8, 156, .inr (.inr (.inr (.inr (fun _ => none)))))), (q_21, .inl (cA_13, 36, .inr (.inr (.inr (.inr (fun _ => none)))))), (q_23, .inl (cA_15, 26, .inl (fun _ => 0))), (q_32, .inl (cA_24, 4096, .inl (fun _ => 0))), (q_33, .inl (cA_25, 4096, .inl (fun _ => 0))), (q_40, .inl (cA_32, 256, .inl (fun _ => 0)))] H := hP
  have hD : va_D A [(h0, .inr (8, (fs33.set 44 (.ref q_40)))), (q_16, .inl (cA_8, 156, .inr (.inr (.inr (.inr (fun _ => none)))))), (q_21, .inl (cA_13, 36, .inr (.inr (.inr (.inr (fun _ => none)))))), (q_23, .inl (cA_15, 26, .inl (fun _ => 0))), (q_32, .inl (cA_24, 4096, .inl (fun _ => 0))), (q_33, .inl (cA_25, 4096, .inl (fun _ => 0))), (q_40, .inl (cA_32, 256, .inl (fun _ => 0)))] := hD
  obtain ⟨fs34, efs⟩ : ∃ z : List Value, z = (fs33.set 44 (.ref q_40)) := ⟨_, rfl⟩
  rw [← efs] at hP hD
  have hk_51 : fs34[51]? = some (.int 0) := by rw [efs]; exact (px_sn (by decide)).trans hk_51
  have hk_47 : fs34[47]? = some (.int 0) := by rw [efs]; exact (px_sn (by decide)).trans hk_47
  have hk_52 : fs34[52]? = some (.int 0) := by rw [efs]; exact (px_sn (by decide)).trans hk_52
  have hk_49 : fs34[49]? = some (.int 0) := by rw [efs]; exact (px_sn (by decide)).trans hk_49
  have hk_8 : fs34[8]? = some (.ref q_16) := by rw [efs]; exact (px_sn (by decide)).trans hk_8
  have hk_16 : fs34[16]? = some (.ref q_21) := by rw [efs]; exact (px_sn (by decide)).trans hk_16
  have hk_18 : fs34[18]? = some (.ref q_23) := by rw [efs]; exact (px_sn (by decide)).trans hk_18
  have hk_27 : fs34[27]? = some (.ref q_32) := by rw [efs]; exact (px_sn (by decide)).trans hk_27
  have hk_28 : fs34[28]? = some (.ref q_33) := by rw [efs]; exact (px_sn (by decide)).trans hk_28
  have hk_42 : fs34[42]? = some (.int (-1)) := by rw [efs]; exact (px_sn (by decide)).trans hk_42
  have hlen : fs34.length = 53 := by rw [efs]; exact px_sl hlen
  clear efs
  have hP := hP.sub (ws' := [(h0, .inr (8, fs34)), (q_16, .inl (cA_8, 156, .inr (.inr (.inr (.inr (fun _ => none)))))), (q_21, .inl (cA_13, 36, .inr (.inr (.inr (.inr (fun _ => none)))))), (q_23, .inl (cA_15, 26, .inl (fun _ => 0))), (q_32, .inl (cA_24, 4096, .inl (fun _ => 0))), (q_33, .inl (cA_25, 4096, .inl (fun _ => 0)))]) [0, 1, 2, 3, 4, 5] rfl
  have hD := hD.sub (ws' := [(h0, .inr (8, fs34)), (q_16, .inl (cA_8, 156, .inr (.inr (.inr (.inr (fun _ => none)))))), (q_21, .inl (cA_13, 36, .inr (.inr (.inr (.inr (fun _ => none)))))), (q_23, .inl (cA_15, 26, .inl (fun _ => 0))), (q_32, .inl (cA_24, 4096, .inl (fun _ => 0))), (q_33, .inl (cA_25, 4096, .inl (fun _ => 0)))]) [0, 1, 2, 3, 4, 5] (by decide) rfl
  refine lv_aload_n hx hb px_d10_310 rfl (lv_at hl 0 rfl) ?_
  refine lv_bipush (v := 12) hx hb px_d10_311 (by decide) ?_
  refine va_newa (atype := .int) (ty := .int) (n := 12) (N' := 12) (a0 := (12, .inl (fun _ => 0))) hx hb (htw _ px_w2) rfl hK hP hD hS hA (fun _ => rfl) (by decide +kernel) (by decide +kernel) (by decide +kernel) (Nat.le_of_ble_eq_true rfl) (Nat.le_of_ble_eq_true rfl) px_d10_313 (fun q_41 cA_33 H hK hP hD hS => ?_)
  have hP : va_P (dC, dI) vwCl [(h0, .inr (8, fs34)), (q_16, .inl (cA_8, 156, .inr (.inr (.inr (.inr (fun _ => none)))))), (q_21, .inl (cA_13, 36, .inr (.inr (.inr (.inr (fun _ => none)))))), (q_23, .inl (cA_15, 26, .inl (fun _ => 0))), (q_32, .inl (cA_24, 4096, .inl (fun _ => 0))), (q_33, .inl (cA_25, 4096, .inl (fun _ => 0))), (q_41, .inl (cA_33, 12, .inl (fun _ => 0)))] H := hP
  have hD : va_D A [(h0, .inr (8, fs34)), (q_16, .inl (cA_8, 156, .inr (.inr (.inr (.inr (fun _ => none)))))), (q_21, .inl (cA_13, 36, .inr (.inr (.inr (.inr (fun _ => none)))))), (q_23, .inl (cA_15, 26, .inl (fun _ => 0))), (q_32, .inl (cA_24, 4096, .inl (fun _ => 0))), (q_33, .inl (cA_25, 4096, .inl (fun _ => 0))), (q_41, .inl (cA_33, 12, .inl (fun _ => 0)))] := hD
  have hK : va_K (dC, dI) vwCl [(cA, .int), (cA_1, .int), (cA_2, .int), (cA_3, .int), (cA_4, .int), (cA_5, .int), (cA_6, .int), (cA_7, .int), (cA_8, .object "MatroidDeskModel$Num"), (cA_9, .int), (cA_10, .int), (cA_11, .int), (cA_12, .int), (cA_13, .object "MatroidDeskModel$Num"), (cA_14, .int), (cA_15, .boolean), (cA_16, .int), (cA_17, .int), (cA_18, .int), (cA_19, .int), (cA_20, .int), (cA_21, .int), (cA_22, .byte), (cA_23, .byte), (cA_24, .int), (cA_25, .int), (cA_26, .long), (cA_27, .long), (cA_28, .int), (cA_29, .int), (cA_30, .int), (cA_31, .byte), (cA_32, .int), (cA_33, .int)] s := hK
  refine W.widen (k := 42) (n := 334109) (Nat.le_of_ble_eq_true rfl) (Nat.le_of_ble_eq_true rfl) ?_
  refine va_putF (D := (dC, dI)) (ci := 8) (v := .ref q_41) (ty := (.array .int)) (C := "MatroidDeskModel") (T := px_T8) (N := 53) hx hb htw px_in8 px_ty8 px_tyok8 px_nm8 hown hK hP hD hS 0 rfl rfl 45 (by decide) (htw _ px_w284) (fun _ h9 => h9) rfl hin rfl (by decide +kernel) rfl rfl (by rw [hlen]; decide) px_d10_315 (fun H locs hP hD hS => ?_)
  have hP : va_P (dC, dI) vwCl [(h0, .inr (8, (fs34.set 45 (.ref q_41)))), (q_16, .inl (cA_8, 156, .inr (.inr (.inr (.inr (fun _ => none)))))), (q_21, .inl (cA_13, 36, .inr (.inr (.inr (.inr (fun _ => none)))))), (q_23, .inl (cA_15, 26, .inl (fun _ => 0))), (q_32, .inl (cA_24, 4096, .inl (fun _ => 0))), (q_33, .inl (cA_25, 4096, .inl (fun _ => 0))), (q_41, .inl (cA_33, 12, .inl (fun _ => 0)))] H := hP
  have hD : va_D A [(h0, .inr (8, (fs34.set 45 (.ref q_41)))), (q_16, .inl (cA_8, 156, .inr (.inr (.inr (.inr (fun _ => none)))))), (q_21, .inl (cA_13, 36, .inr (.inr (.inr (.inr (fun _ => none)))))), (q_23, .inl (cA_15, 26, .inl (fun _ => 0))), (q_32, .inl (cA_24, 4096, .inl (fun _ => 0))), (q_33, .inl (cA_25, 4096, .inl (fun _ => 0))), (q_41, .inl (cA_33, 12, .inl (fun _ => 0)))] := hD
  obtain ⟨fs35, efs⟩ : ∃ z : List Value, z = (fs34.set 45 (.ref q_41)) := ⟨_, rfl⟩
  rw [← efs] at hP hD
  have hk_51 : fs35[51]? = some (.int 0) := by rw [efs]; exact (px_sn (by decide)).trans hk_51
  have hk_47 : fs35[47]? = some (.int 0) := by rw [efs]; exact (px_sn (by decide)).trans hk_47
  have hk_52 : fs35[52]? = some (.int 0) := by rw [efs]; exact (px_sn (by decide)).trans hk_52
  have hk_49 : fs35[49]? = some (.int 0) := by rw [efs]; exact (px_sn (by decide)).trans hk_49
  have hk_8 : fs35[8]? = some (.ref q_16) := by rw [efs]; exact (px_sn (by decide)).trans hk_8
  have hk_16 : fs35[16]? = some (.ref q_21) := by rw [efs]; exact (px_sn (by decide)).trans hk_16
  have hk_18 : fs35[18]? = some (.ref q_23) := by rw [efs]; exact (px_sn (by decide)).trans hk_18
  have hk_27 : fs35[27]? = some (.ref q_32) := by rw [efs]; exact (px_sn (by decide)).trans hk_27
  have hk_28 : fs35[28]? = some (.ref q_33) := by rw [efs]; exact (px_sn (by decide)).trans hk_28
  have hk_42 : fs35[42]? = some (.int (-1)) := by rw [efs]; exact (px_sn (by decide)).trans hk_42
  have hlen : fs35.length = 53 := by rw [efs]; exact px_sl hlen
  clear efs
  have hP := hP.sub (ws' := [(h0, .inr (8, fs35)), (q_16, .inl (cA_8, 156, .inr (.inr (.inr (.inr (fun _ => none)))))), (q_21, .inl (cA_13, 36, .inr (.inr (.inr (.inr (fun _ => none)))))), (q_23, .inl (cA_15, 26, .inl (fun _ => 0))), (q_32, .inl (cA_24, 4096, .inl (fun _ => 0))), (q_33, .inl (cA_25, 4096, .inl (fun _ => 0)))]) [0, 1, 2, 3, 4, 5] rfl
  have hD := hD.sub (ws' := [(h0, .inr (8, fs35)), (q_16, .inl (cA_8, 156, .inr (.inr (.inr (.inr (fun _ => none)))))), (q_21, .inl (cA_13, 36, .inr (.inr (.inr (.inr (fun _ => none)))))), (q_23, .inl (cA_15, 26, .inl (fun _ => 0))), (q_32, .inl (cA_24, 4096, .inl (fun _ => 0))), (q_33, .inl (cA_25, 4096, .inl (fun _ => 0)))]) [0, 1, 2, 3, 4, 5] (by decide) rfl
  refine lv_aload_n hx hb px_d10_318 rfl (lv_at hl 0 rfl) ?_
  refine lv_ldc hx hb (own := "MatroidDeskModel") (index := 218) (v := 65536) hown (htw _ px_w285) px_d10_319 ?_
  refine va_newa (atype := .byte) (ty := .byte) (n := 65536) (N' := 65536) (a0 := (65536, .inl (fun _ => 0))) hx hb (htw _ px_w3) rfl hK hP hD hS hA (fun _ => rfl) (by decide +kernel) (by decide +kernel) (by decide +kernel) (Nat.le_of_ble_eq_true rfl) (Nat.le_of_ble_eq_true rfl) px_d10_321 (fun q_42 cA_34 H hK hP hD hS => ?_)
  have hP : va_P (dC, dI) vwCl [(h0, .inr (8, fs35)), (q_16, .inl (cA_8, 156, .inr (.inr (.inr (.inr (fun _ => none)))))), (q_21, .inl (cA_13, 36, .inr (.inr (.inr (.inr (fun _ => none)))))), (q_23, .inl (cA_15, 26, .inl (fun _ => 0))), (q_32, .inl (cA_24, 4096, .inl (fun _ => 0))), (q_33, .inl (cA_25, 4096, .inl (fun _ => 0))), (q_42, .inl (cA_34, 65536, .inl (fun _ => 0)))] H := hP
  have hD : va_D A [(h0, .inr (8, fs35)), (q_16, .inl (cA_8, 156, .inr (.inr (.inr (.inr (fun _ => none)))))), (q_21, .inl (cA_13, 36, .inr (.inr (.inr (.inr (fun _ => none)))))), (q_23, .inl (cA_15, 26, .inl (fun _ => 0))), (q_32, .inl (cA_24, 4096, .inl (fun _ => 0))), (q_33, .inl (cA_25, 4096, .inl (fun _ => 0))), (q_42, .inl (cA_34, 65536, .inl (fun _ => 0)))] := hD
  have hK : va_K (dC, dI) vwCl [(cA, .int), (cA_1, .int), (cA_2, .int), (cA_3, .int), (cA_4, .int), (cA_5, .int), (cA_6, .int), (cA_7, .int), (cA_8, .object "MatroidDeskModel$Num"), (cA_9, .int), (cA_10, .int), (cA_11, .int), (cA_12, .int), (cA_13, .object "MatroidDeskModel$Num"), (cA_14, .int), (cA_15, .boolean), (cA_16, .int), (cA_17, .int), (cA_18, .int), (cA_19, .int), (cA_20, .int), (cA_21, .int), (cA_22, .byte), (cA_23, .byte), (cA_24, .int), (cA_25, .int), (cA_26, .long), (cA_27, .long), (cA_28, .int), (cA_29, .int), (cA_30, .int), (cA_31, .byte), (cA_32, .int), (cA_33, .int), (cA_34, .byte)] s := hK
  refine W.widen (k := 43) (n := 399645) (Nat.le_of_ble_eq_true rfl) (Nat.le_of_ble_eq_true rfl) ?_
  refine va_putF (D := (dC, dI)) (ci := 8) (v := .ref q_42) (ty := (.array .byte)) (C := "MatroidDeskModel") (T := px_T8) (N := 53) hx hb htw px_in8 px_ty8 px_tyok8 px_nm8 hown hK hP hD hS 0 rfl rfl 46 (by decide) (htw _ px_w286) (fun _ h9 => h9) rfl hin rfl (by decide +kernel) rfl rfl (by rw [hlen]; decide) px_d10_323 (fun H locs hP hD hS => ?_)
  have hP : va_P (dC, dI) vwCl [(h0, .inr (8, (fs35.set 46 (.ref q_42)))), (q_16, .inl (cA_8, 156, .inr (.inr (.inr (.inr (fun _ => none)))))), (q_21, .inl (cA_13, 36, .inr (.inr (.inr (.inr (fun _ => none)))))), (q_23, .inl (cA_15, 26, .inl (fun _ => 0))), (q_32, .inl (cA_24, 4096, .inl (fun _ => 0))), (q_33, .inl (cA_25, 4096, .inl (fun _ => 0))), (q_42, .inl (cA_34, 65536, .inl (fun _ => 0)))] H := hP
  have hD : va_D A [(h0, .inr (8, (fs35.set 46 (.ref q_42)))), (q_16, .inl (cA_8, 156, .inr (.inr (.inr (.inr (fun _ => none)))))), (q_21, .inl (cA_13, 36, .inr (.inr (.inr (.inr (fun _ => none)))))), (q_23, .inl (cA_15, 26, .inl (fun _ => 0))), (q_32, .inl (cA_24, 4096, .inl (fun _ => 0))), (q_33, .inl (cA_25, 4096, .inl (fun _ => 0))), (q_42, .inl (cA_34, 65536, .inl (fun _ => 0)))] := hD
  obtain ⟨fs36, efs⟩ : ∃ z : List Value, z = (fs35.set 46 (.ref q_42)) := ⟨_, rfl⟩
  rw [← efs] at hP hD
  have hk_51 : fs36[51]? = some (.int 0) := by rw [efs]; exact (px_sn (by decide)).trans hk_51
  have hk_47 : fs36[47]? = some (.int 0) := by rw [efs]; exact (px_sn (by decide)).trans hk_47
  have hk_52 : fs36[52]? = some (.int 0) := by rw [efs]; exact (px_sn (by decide)).trans hk_52
  have hk_49 : fs36[49]? = some (.int 0) := by rw [efs]; exact (px_sn (by decide)).trans hk_49
  have hk_8 : fs36[8]? = some (.ref q_16) := by rw [efs]; exact (px_sn (by decide)).trans hk_8
  have hk_16 : fs36[16]? = some (.ref q_21) := by rw [efs]; exact (px_sn (by decide)).trans hk_16
  have hk_18 : fs36[18]? = some (.ref q_23) := by rw [efs]; exact (px_sn (by decide)).trans hk_18
  have hk_27 : fs36[27]? = some (.ref q_32) := by rw [efs]; exact (px_sn (by decide)).trans hk_27
  have hk_28 : fs36[28]? = some (.ref q_33) := by rw [efs]; exact (px_sn (by decide)).trans hk_28
  have hk_42 : fs36[42]? = some (.int (-1)) := by rw [efs]; exact (px_sn (by decide)).trans hk_42
  have hlen : fs36.length = 53 := by rw [efs]; exact px_sl hlen
  clear efs
  have hP := hP.sub (ws' := [(h0, .inr (8, fs36)), (q_16, .inl (cA_8, 156, .inr (.inr (.inr (.inr (fun _ => none)))))), (q_21, .inl (cA_13, 36, .inr (.inr (.inr (.inr (fun _ => none)))))), (q_23, .inl (cA_15, 26, .inl (fun _ => 0))), (q_32, .inl (cA_24, 4096, .inl (fun _ => 0))), (q_33, .inl (cA_25, 4096, .inl (fun _ => 0)))]) [0, 1, 2, 3, 4, 5] rfl
  have hD := hD.sub (ws' := [(h0, .inr (8, fs36)), (q_16, .inl (cA_8, 156, .inr (.inr (.inr (.inr (fun _ => none)))))), (q_21, .inl (cA_13, 36, .inr (.inr (.inr (.inr (fun _ => none)))))), (q_23, .inl (cA_15, 26, .inl (fun _ => 0))), (q_32, .inl (cA_24, 4096, .inl (fun _ => 0))), (q_33, .inl (cA_25, 4096, .inl (fun _ => 0)))]) [0, 1, 2, 3, 4, 5] (by decide) rfl
  refine lv_aload_n hx hb px_d10_326 rfl (lv_at hl 0 rfl) ?_
  refine lv_sipush (v := 200) hx hb px_d10_327 (by decide) ?_
  refine va_newa (atype := .byte) (ty := .byte) (n := 200) (N' := 200) (a0 := (200, .inl (fun _ => 0))) hx hb (htw _ px_w3) rfl hK hP hD hS hA (fun _ => rfl) (by decide +kernel) (by decide +kernel) (by decide +kernel) (Nat.le_of_ble_eq_true rfl) (Nat.le_of_ble_eq_true rfl) px_d10_330 (fun q_43 cA_35 H hK hP hD hS => ?_)
  have hP : va_P (dC, dI) vwCl [(h0, .inr (8, fs36)), (q_16, .inl (cA_8, 156, .inr (.inr (.inr (.inr (fun _ => none)))))), (q_21, .inl (cA_13, 36, .inr (.inr (.inr (.inr (fun _ => none)))))), (q_23, .inl (cA_15, 26, .inl (fun _ => 0))), (q_32, .inl (cA_24, 4096, .inl (fun _ => 0))), (q_33, .inl (cA_25, 4096, .inl (fun _ => 0))), (q_43, .inl (cA_35, 200, .inl (fun _ => 0)))] H := hP
  have hD : va_D A [(h0, .inr (8, fs36)), (q_16, .inl (cA_8, 156, .inr (.inr (.inr (.inr (fun _ => none)))))), (q_21, .inl (cA_13, 36, .inr (.inr (.inr (.inr (fun _ => none)))))), (q_23, .inl (cA_15, 26, .inl (fun _ => 0))), (q_32, .inl (cA_24, 4096, .inl (fun _ => 0))), (q_33, .inl (cA_25, 4096, .inl (fun _ => 0))), (q_43, .inl (cA_35, 200, .inl (fun _ => 0)))] := hD
  have hK : va_K (dC, dI) vwCl [(cA, .int), (cA_1, .int), (cA_2, .int), (cA_3, .int), (cA_4, .int), (cA_5, .int), (cA_6, .int), (cA_7, .int), (cA_8, .object "MatroidDeskModel$Num"), (cA_9, .int), (cA_10, .int), (cA_11, .int), (cA_12, .int), (cA_13, .object "MatroidDeskModel$Num"), (cA_14, .int), (cA_15, .boolean), (cA_16, .int), (cA_17, .int), (cA_18, .int), (cA_19, .int), (cA_20, .int), (cA_21, .int), (cA_22, .byte), (cA_23, .byte), (cA_24, .int), (cA_25, .int), (cA_26, .long), (cA_27, .long), (cA_28, .int), (cA_29, .int), (cA_30, .int), (cA_31, .byte), (cA_32, .int), (cA_33, .int), (cA_34, .byte), (cA_35, .byte)] s := hK
  refine W.widen (k := 44) (n := 399845) (Nat.le_of_ble_eq_true rfl) (Nat.le_of_ble_eq_true rfl) ?_
  refine va_putF (D := (dC, dI)) (ci := 8) (v := .ref q_43) (ty := (.array .byte)) (C := "MatroidDeskModel") (T := px_T8) (N := 53) hx hb htw px_in8 px_ty8 px_tyok8 px_nm8 hown hK hP hD hS 0 rfl rfl 48 (by decide) (htw _ px_w287) (fun _ h9 => h9) rfl hin rfl (by decide +kernel) rfl rfl (by rw [hlen]; decide) px_d10_332 (fun H locs hP hD hS => ?_)
  have hP : va_P (dC, dI) vwCl [(h0, .inr (8, (fs36.set 48 (.ref q_43)))), (q_16, .inl (cA_8, 156, .inr (.inr (.inr (.inr (fun _ => none)))))), (q_21, .inl (cA_13, 36, .inr (.inr (.inr (.inr (fun _ => none)))))), (q_23, .inl (cA_15, 26, .inl (fun _ => 0))), (q_32, .inl (cA_24, 4096, .inl (fun _ => 0))), (q_33, .inl (cA_25, 4096, .inl (fun _ => 0))), (q_43, .inl (cA_35, 200, .inl (fun _ => 0)))] H := hP
  have hD : va_D A [(h0, .inr (8, (fs36.set 48 (.ref q_43)))), (q_16, .inl (cA_8, 156, .inr (.inr (.inr (.inr (fun _ => none)))))), (q_21, .inl (cA_13, 36, .inr (.inr (.inr (.inr (fun _ => none)))))), (q_23, .inl (cA_15, 26, .inl (fun _ => 0))), (q_32, .inl (cA_24, 4096, .inl (fun _ => 0))), (q_33, .inl (cA_25, 4096, .inl (fun _ => 0))), (q_43, .inl (cA_35, 200, .inl (fun _ => 0)))] := hD
  obtain ⟨fs37, efs⟩ : ∃ z : List Value, z = (fs36.set 48 (.ref q_43)) := ⟨_, rfl⟩
  rw [← efs] at hP hD
  have hk_51 : fs37[51]? = some (.int 0) := by rw [efs]; exact (px_sn (by decide)).trans hk_51
  have hk_47 : fs37[47]? = some (.int 0) := by rw [efs]; exact (px_sn (by decide)).trans hk_47
  have hk_52 : fs37[52]? = some (.int 0) := by rw [efs]; exact (px_sn (by decide)).trans hk_52
  have hk_49 : fs37[49]? = some (.int 0) := by rw [efs]; exact (px_sn (by decide)).trans hk_49
  have hk_8 : fs37[8]? = some (.ref q_16) := by rw [efs]; exact (px_sn (by decide)).trans hk_8
  have hk_16 : fs37[16]? = some (.ref q_21) := by rw [efs]; exact (px_sn (by decide)).trans hk_16
  have hk_18 : fs37[18]? = some (.ref q_23) := by rw [efs]; exact (px_sn (by decide)).trans hk_18
  have hk_27 : fs37[27]? = some (.ref q_32) := by rw [efs]; exact (px_sn (by decide)).trans hk_27
  have hk_28 : fs37[28]? = some (.ref q_33) := by rw [efs]; exact (px_sn (by decide)).trans hk_28
  have hk_42 : fs37[42]? = some (.int (-1)) := by rw [efs]; exact (px_sn (by decide)).trans hk_42
  have hlen : fs37.length = 53 := by rw [efs]; exact px_sl hlen
  clear efs
  have hP := hP.sub (ws' := [(h0, .inr (8, fs37)), (q_16, .inl (cA_8, 156, .inr (.inr (.inr (.inr (fun _ => none)))))), (q_21, .inl (cA_13, 36, .inr (.inr (.inr (.inr (fun _ => none)))))), (q_23, .inl (cA_15, 26, .inl (fun _ => 0))), (q_32, .inl (cA_24, 4096, .inl (fun _ => 0))), (q_33, .inl (cA_25, 4096, .inl (fun _ => 0)))]) [0, 1, 2, 3, 4, 5] rfl
  have hD := hD.sub (ws' := [(h0, .inr (8, fs37)), (q_16, .inl (cA_8, 156, .inr (.inr (.inr (.inr (fun _ => none)))))), (q_21, .inl (cA_13, 36, .inr (.inr (.inr (.inr (fun _ => none)))))), (q_23, .inl (cA_15, 26, .inl (fun _ => 0))), (q_32, .inl (cA_24, 4096, .inl (fun _ => 0))), (q_33, .inl (cA_25, 4096, .inl (fun _ => 0)))]) [0, 1, 2, 3, 4, 5] (by decide) rfl
  refine lv_aload_n hx hb px_d10_335 rfl (lv_at hl 0 rfl) ?_
  refine lv_sipush (v := 16384) hx hb px_d10_336 (by decide) ?_
  refine va_newa (atype := .byte) (ty := .byte) (n := 16384) (N' := 16384) (a0 := (16384, .inl (fun _ => 0))) hx hb (htw _ px_w3) rfl hK hP hD hS hA (fun _ => rfl) (by decide +kernel) (by decide +kernel) (by decide +kernel) (Nat.le_of_ble_eq_true rfl) (Nat.le_of_ble_eq_true rfl) px_d10_339 (fun q_44 cA_36 H hK hP hD hS => ?_)
  have hP : va_P (dC, dI) vwCl [(h0, .inr (8, fs37)), (q_16, .inl (cA_8, 156, .inr (.inr (.inr (.inr (fun _ => none)))))), (q_21, .inl (cA_13, 36, .inr (.inr (.inr (.inr (fun _ => none)))))), (q_23, .inl (cA_15, 26, .inl (fun _ => 0))), (q_32, .inl (cA_24, 4096, .inl (fun _ => 0))), (q_33, .inl (cA_25, 4096, .inl (fun _ => 0))), (q_44, .inl (cA_36, 16384, .inl (fun _ => 0)))] H := hP
  have hD : va_D A [(h0, .inr (8, fs37)), (q_16, .inl (cA_8, 156, .inr (.inr (.inr (.inr (fun _ => none)))))), (q_21, .inl (cA_13, 36, .inr (.inr (.inr (.inr (fun _ => none)))))), (q_23, .inl (cA_15, 26, .inl (fun _ => 0))), (q_32, .inl (cA_24, 4096, .inl (fun _ => 0))), (q_33, .inl (cA_25, 4096, .inl (fun _ => 0))), (q_44, .inl (cA_36, 16384, .inl (fun _ => 0)))] := hD
  have hK : va_K (dC, dI) vwCl [(cA, .int), (cA_1, .int), (cA_2, .int), (cA_3, .int), (cA_4, .int), (cA_5, .int), (cA_6, .int), (cA_7, .int), (cA_8, .object "MatroidDeskModel$Num"), (cA_9, .int), (cA_10, .int), (cA_11, .int), (cA_12, .int), (cA_13, .object "MatroidDeskModel$Num"), (cA_14, .int), (cA_15, .boolean), (cA_16, .int), (cA_17, .int), (cA_18, .int), (cA_19, .int), (cA_20, .int), (cA_21, .int), (cA_22, .byte), (cA_23, .byte), (cA_24, .int), (cA_25, .int), (cA_26, .long), (cA_27, .long), (cA_28, .int), (cA_29, .int), (cA_30, .int), (cA_31, .byte), (cA_32, .int), (cA_33, .int), (cA_34, .byte), (cA_35, .byte), (cA_36, .byte)] s := hK
  refine W.widen (k := 45) (n := 416229) (Nat.le_of_ble_eq_true rfl) (Nat.le_of_ble_eq_true rfl) ?_
  refine va_putF (D := (dC, dI)) (ci := 8) (v := .ref q_44) (ty := (.array .byte)) (C := "MatroidDeskModel") (T := px_T8) (N := 53) hx hb htw px_in8 px_ty8 px_tyok8 px_nm8 hown hK hP hD hS 0 rfl rfl 50 (by decide) (htw _ px_w288) (fun _ h9 => h9) rfl hin rfl (by decide +kernel) rfl rfl (by rw [hlen]; decide) px_d10_341 (fun H locs hP hD hS => ?_)
  have hP : va_P (dC, dI) vwCl [(h0, .inr (8, (fs37.set 50 (.ref q_44)))), (q_16, .inl (cA_8, 156, .inr (.inr (.inr (.inr (fun _ => none)))))), (q_21, .inl (cA_13, 36, .inr (.inr (.inr (.inr (fun _ => none)))))), (q_23, .inl (cA_15, 26, .inl (fun _ => 0))), (q_32, .inl (cA_24, 4096, .inl (fun _ => 0))), (q_33, .inl (cA_25, 4096, .inl (fun _ => 0))), (q_44, .inl (cA_36, 16384, .inl (fun _ => 0)))] H := hP
  have hD : va_D A [(h0, .inr (8, (fs37.set 50 (.ref q_44)))), (q_16, .inl (cA_8, 156, .inr (.inr (.inr (.inr (fun _ => none)))))), (q_21, .inl (cA_13, 36, .inr (.inr (.inr (.inr (fun _ => none)))))), (q_23, .inl (cA_15, 26, .inl (fun _ => 0))), (q_32, .inl (cA_24, 4096, .inl (fun _ => 0))), (q_33, .inl (cA_25, 4096, .inl (fun _ => 0))), (q_44, .inl (cA_36, 16384, .inl (fun _ => 0)))] := hD
  obtain ⟨fs38, efs⟩ : ∃ z : List Value, z = (fs37.set 50 (.ref q_44)) := ⟨_, rfl⟩
  rw [← efs] at hP hD
  have hk_51 : fs38[51]? = some (.int 0) := by rw [efs]; exact (px_sn (by decide)).trans hk_51
  have hk_47 : fs38[47]? = some (.int 0) := by rw [efs]; exact (px_sn (by decide)).trans hk_47
  have hk_52 : fs38[52]? = some (.int 0) := by rw [efs]; exact (px_sn (by decide)).trans hk_52
  have hk_49 : fs38[49]? = some (.int 0) := by rw [efs]; exact (px_sn (by decide)).trans hk_49
  have hk_8 : fs38[8]? = some (.ref q_16) := by rw [efs]; exact (px_sn (by decide)).trans hk_8
  have hk_16 : fs38[16]? = some (.ref q_21) := by rw [efs]; exact (px_sn (by decide)).trans hk_16
  have hk_18 : fs38[18]? = some (.ref q_23) := by rw [efs]; exact (px_sn (by decide)).trans hk_18
  have hk_27 : fs38[27]? = some (.ref q_32) := by rw [efs]; exact (px_sn (by decide)).trans hk_27
  have hk_28 : fs38[28]? = some (.ref q_33) := by rw [efs]; exact (px_sn (by decide)).trans hk_28
  have hk_42 : fs38[42]? = some (.int (-1)) := by rw [efs]; exact (px_sn (by decide)).trans hk_42
  have hk_50 : fs38[50]? = some (.ref q_44) := by rw [efs]; exact px_ss hlen (by decide)
  have hlen : fs38.length = 53 := by rw [efs]; exact px_sl hlen
  clear efs
  refine lv_iconst (v := 0) hx hb px_d10_344 (by decide) ?_
  refine lv_istore_n (lv' := [(1, .int 0), (0, .ref h0)]) hx hb px_d10_345 rfl hl (by decide) rfl (fun ls hl => ?_)
  have fin : ∀ (fw fm : Nat → Option Nat) (fo fz : Nat → Int32) (H : Heap) (locs : List Loc) (ls : Array Slot), va_P (dC, dI) vwCl [(h0, .inr (8, fs38)), (q_16, .inl (cA_8, 156, .inr (.inr (.inr (.inr fw))))), (q_21, .inl (cA_13, 36, .inr (.inr (.inr (.inr fm))))), (q_23, .inl (cA_15, 26, .inl (fun _ => 0))), (q_32, .inl (cA_24, 4096, .inl fo)), (q_33, .inl (cA_25, 4096, .inl fz)), (q_44, .inl (cA_36, 16384, .inl (fun _ => 0)))] H → va_D A [(h0, .inr (8, fs38)), (q_16, .inl (cA_8, 156, .inr (.inr (.inr (.inr fw))))), (q_21, .inl (cA_13, 36, .inr (.inr (.inr (.inr fm))))), (q_23, .inl (cA_15, 26, .inl (fun _ => 0))), (q_32, .inl (cA_24, 4096, .inl fo)), (q_33, .inl (cA_25, 4096, .inl fz)), (q_44, .inl (cA_36, 16384, .inl (fun _ => 0)))] → va_S A s.heap H locs → W p l e (headSpec px_s10 ({ frames := 13, cells := 429, slots := 447525, locals := 338 })).room s m ([.ref h0]).toArray below meth c H locs 429 447525 Q (F0 m 424 ls []) := by
    intro fw fm fo fz H locs ls hP hD hS
    rw [← hQ]
    have hP9 := hP.sub (ws' := [(h0, .inr (8, fs38)), (q_23, .inl (cA_15, 26, .inl (fun _ => 0))), (q_44, .inl (cA_36, 16384, .inl (fun _ => 0)))]) [0, 3, 6] rfl
    have hD9 := hD.sub (ws' := [(h0, .inr (8, fs38)), (q_23, .inl (cA_15, 26, .inl (fun _ => 0))), (q_44, .inl (cA_36, 16384, .inl (fun _ => 0)))]) [0, 3, 6] (by decide) rfl
    have hK9 := hK.sub (tys' := [(cA_15, .boolean), (cA_36, .byte)]) [15, 36] rfl
    exact W.vret hx hb hr (fun t ht hW => ⟨⟨(), rfl, trivial, fs38, q_23, q_44, cA_15, cA_36, by rw [ht]; exact hP9, va_K.moved hW.alike hK9, hD9, ⟨hlen, hk_18, hk_50, hk_51, hk_47, hk_42, hk_52, hk_49⟩⟩, hS.F ht⟩) hS.2.2 px_d10_424
  have lp3 : ∀ (j k : Nat) (fw fm : Nat → Option Nat) (fo fz : Nat → Int32) (H : Heap) (locs : List Loc) (ls : Array Slot), k + j = 13 → px_ok fo (px_sm k) → va_P (dC, dI) vwCl [(h0, .inr (8, fs38)), (q_16, .inl (cA_8, 156, .inr (.inr (.inr (.inr fw))))), (q_21, .inl (cA_13, 36, .inr (.inr (.inr (.inr fm))))), (q_23, .inl (cA_15, 26, .inl (fun _ => 0))), (q_32, .inl (cA_24, 4096, .inl fo)), (q_33, .inl (cA_25, 4096, .inl fz)), (q_44, .inl (cA_36, 16384, .inl (fun _ => 0)))] H → va_D A [(h0, .inr (8, fs38)), (q_16, .inl (cA_8, 156, .inr (.inr (.inr (.inr fw))))), (q_21, .inl (cA_13, 36, .inr (.inr (.inr (.inr fm))))), (q_23, .inl (cA_15, 26, .inl (fun _ => 0))), (q_32, .inl (cA_24, 4096, .inl fo)), (q_33, .inl (cA_25, 4096, .inl fz)), (q_44, .inl (cA_36, 16384, .inl (fun _ => 0)))] → va_S A s.heap H locs → lv_has ls 3 [(2, .int (nI k)), (1, .int (nI (px_sm k))), (0, .ref h0)] → W p l e (headSpec px_s10 ({ frames := 13, cells := 429, slots := 447525, locals := 338 })).room s m ([.ref h0]).toArray below meth c H locs 429 447525 Q (F0 m 403 ls []) := by
    intro j
    induction j with
    | zero =>
      intro k fw fm fo fz H locs ls hk hok hP hD hS hl
      refine lv_iload_n hx hb px_d10_403 rfl (lv_at hl 0 rfl) ?_
      refine lv_bipush (v := 12) hx hb px_d10_404 (by decide) ?_
      refine lv_icmp_gt (tgt := 424) hx hb px_d10_406 (by decide) (fun _ => ?_) (fun h9 => absurd (show nI 12 < nI k from nI_lt (by omega) (by omega)) h9)
      exact fin fw fm fo fz H locs ls hP hD hS
    | succ j ih3 =>
      intro k fw fm fo fz H locs ls hk hok hP hD hS hl
      have hle := px_sm_le k (by omega)
      refine lv_iload_n hx hb px_d10_403 rfl (lv_at hl 0 rfl) ?_
      refine lv_bipush (v := 12) hx hb px_d10_404 (by decide) ?_
      refine lv_icmp_gt (tgt := 424) hx hb px_d10_406 (by decide) (fun h9 => absurd h9 (show ¬ nI 12 < nI k from nI_nlt (by omega) (by omega))) (fun _ => ?_)
      refine lv_aload_n hx hb px_d10_409 rfl (lv_at hl 2 rfl) ?_
      refine lv_iload_n hx hb px_d10_410 rfl (lv_at hl 0 rfl) ?_
      refine lv_iconst (v := 0) hx hb px_d10_411 (by decide) ?_
      refine lv_topi (nm_r (e' := (nI 0)) nI_0.symm ?_)
      refine lv_iconst (v := 0) hx hb px_d10_412 (by decide) ?_
      refine lv_topi (nm_r (e' := (nI 0)) nI_0.symm ?_)
      refine lv_iload_n hx hb px_d10_413 rfl (lv_at hl 1 rfl) ?_
      have hPc := hP.sub (ws' := [(h0, .inr (8, fs38)), (q_32, .inl (cA_24, 4096, .inl fo)), (q_33, .inl (cA_25, 4096, .inl fz))]) [0, 4, 5] rfl
      have hDc := hD.sub (ws' := [(h0, .inr (8, fs38)), (q_32, .inl (cA_24, 4096, .inl fo)), (q_33, .inl (cA_25, 4096, .inl fz))]) [0, 4, 5] (by decide) rfl
      have hKc := hK.sub (tys' := [(cA_24, .int), (cA_25, .int)]) [24, 25] rfl
      have hFc := va_free (wc := [(h0, .inr (8, fs38)), (q_32, .inl (cA_24, 4096, .inl fo)), (q_33, .inl (cA_25, 4096, .inl fz))]) hD hS hA [0, 4, 5] rfl
      refine va_calli (va_runV (As := [.int (nI k), .int (nI 0), .int (nI 0), .int (nI (px_sm k))]) (rest := []) ⟨hx, hb, hml, hown, htw⟩ (px_list l dC dI k (by omega) H.size h0 q_32 q_33 cA_24 cA_25 fs38 fo fz 0 0 (px_sm k) (by omega) (by decide) hle hk_27 hk_28 hok) (cwV 4 htw (px_gv px_w244 px_w241 px_w242 px_w94 px_g9) rfl rfl rfl (by decide +kernel) ⟨(show k + 1 ≤ 13 by omega), (show 8 + (7 + 11) + 26 * k ≤ 338 by omega)⟩) ⟨fun a U g mk q => by obtain ⟨q0, q1, qP, qK, qD, qN⟩ := q; exact ⟨q0, q1, qP, va_K.moved (u := U) (U := U.calling g mk a) (Vm.Alike.refl U.vm) qK, qD, qN.same rfl⟩, va_recv hK hP (ci := 8) (q0 := 0) rfl rfl, fun U hU hW => ⟨rfl, by rw [hU], by rw [hU]; exact hPc, va_K.moved hW.alike hKc, hDc.weaken (fun _ _ _ _ => trivial), hN.warm hW⟩⟩ rfl rfl hl.1 rfl (lv_room (Nat.le_of_ble_eq_true rfl)) px_d10_414 ⟨(Nat.le_of_ble_eq_true rfl), (Nat.le_of_ble_eq_true rfl)⟩) hS (fun q _ h => hFc q h) hFc (fun r u t H1 locs ht hvm hw_414 hB hz1 hk1 hS => ?_)
      obtain ⟨f1, g1, hP1, hK1, hD1, hF414_0⟩ := hB
      rw [ht] at hP1
      have hK1 := va_K.moved hvm.symm hK1
      obtain ⟨hP, hD⟩ := va_join (wr := [(q_16, .inl (cA_8, 156, .inr (.inr (.inr (.inr fw))))), (q_21, .inl (cA_13, 36, .inr (.inr (.inr (.inr fm))))), (q_23, .inl (cA_15, 26, .inl (fun _ => 0))), (q_44, .inl (cA_36, 16384, .inl (fun _ => 0)))]) (w1 := [(h0, .inr (8, fs38)), (q_32, .inl (cA_24, 4096, .inl f1)), (q_33, .inl (cA_25, 4096, .inl g1))]) hP hD [0, 4, 5] [1, 2, 3, 6] rfl rfl (by decide) (by decide) hk1 hFc hP1 hD1
      generalize H1 = H at hP hS ⊢
      have hP : va_P (dC, dI) vwCl [(q_16, .inl (cA_8, 156, .inr (.inr (.inr (.inr fw))))), (q_21, .inl (cA_13, 36, .inr (.inr (.inr (.inr fm))))), (q_23, .inl (cA_15, 26, .inl (fun _ => 0))), (q_44, .inl (cA_36, 16384, .inl (fun _ => 0))), (h0, .inr (8, fs38)), (q_32, .inl (cA_24, 4096, .inl f1)), (q_33, .inl (cA_25, 4096, .inl g1))] H := hP
      have hD : va_D A [(q_16, .inl (cA_8, 156, .inr (.inr (.inr (.inr fw))))), (q_21, .inl (cA_13, 36, .inr (.inr (.inr (.inr fm))))), (q_23, .inl (cA_15, 26, .inl (fun _ => 0))), (q_44, .inl (cA_36, 16384, .inl (fun _ => 0))), (h0, .inr (8, fs38)), (q_32, .inl (cA_24, 4096, .inl f1)), (q_33, .inl (cA_25, 4096, .inl g1))] := hD
      subst hw_414
      refine lv_istore_n (lv' := [(1, .int (nI (px_sm k + px_bn 12 k))), (2, .int (nI k)), (0, .ref h0)]) hx hb px_d10_417 rfl hl (by decide) rfl (fun ls hl => ?_)
      refine lv_iinc (v := nI (k + 1)) (lv' := [(2, .int (nI (k + 1))), (1, .int (nI (px_sm k + px_bn 12 k))), (0, .ref h0)]) hx hb px_d10_418 hl (k := 1) rfl (show nI k + 1 = nI (k + 1) from nI_1 k) (by decide) rfl (fun ls hl => ?_)
      refine lv_goto (tgt := 403) hx hb px_d10_421 (by decide) ?_
      have hP := hP.sub (ws' := [(h0, .inr (8, fs38)), (q_16, .inl (cA_8, 156, .inr (.inr (.inr (.inr fw))))), (q_21, .inl (cA_13, 36, .inr (.inr (.inr (.inr fm))))), (q_23, .inl (cA_15, 26, .inl (fun _ => 0))), (q_32, .inl (cA_24, 4096, .inl f1)), (q_33, .inl (cA_25, 4096, .inl g1)), (q_44, .inl (cA_36, 16384, .inl (fun _ => 0)))]) [4, 0, 1, 2, 5, 6, 3] rfl
      have hD := hD.sub (ws' := [(h0, .inr (8, fs38)), (q_16, .inl (cA_8, 156, .inr (.inr (.inr (.inr fw))))), (q_21, .inl (cA_13, 36, .inr (.inr (.inr (.inr fm))))), (q_23, .inl (cA_15, 26, .inl (fun _ => 0))), (q_32, .inl (cA_24, 4096, .inl f1)), (q_33, .inl (cA_25, 4096, .inl g1)), (q_44, .inl (cA_36, 16384, .inl (fun _ => 0)))]) [4, 0, 1, 2, 5, 6, 3] (by decide) rfl
      exact ih3 (k + 1) fw fm _ _ H locs ls (by omega) hF414_0 hP hD hS (lv_sub hl [0, 1, 2] rfl)
  have lp2 : ∀ (j k : Nat) (fw fm : Nat → Option Nat) (fo fz : Nat → Int32) (H : Heap) (locs : List Loc) (ls : Array Slot), k + j = 36 → va_P (dC, dI) vwCl [(h0, .inr (8, fs38)), (q_16, .inl (cA_8, 156, .inr (.inr (.inr (.inr fw))))), (q_21, .inl (cA_13, 36, .inr (.inr (.inr (.inr fm))))), (q_23, .inl (cA_15, 26, .inl (fun _ => 0))), (q_32, .inl (cA_24, 4096, .inl fo)), (q_33, .inl (cA_25, 4096, .inl fz)), (q_44, .inl (cA_36, 16384, .inl (fun _ => 0)))] H → va_D A [(h0, .inr (8, fs38)), (q_16, .inl (cA_8, 156, .inr (.inr (.inr (.inr fw))))), (q_21, .inl (cA_13, 36, .inr (.inr (.inr (.inr fm))))), (q_23, .inl (cA_15, 26, .inl (fun _ => 0))), (q_32, .inl (cA_24, 4096, .inl fo)), (q_33, .inl (cA_25, 4096, .inl fz)), (q_44, .inl (cA_36, 16384, .inl (fun _ => 0)))] → va_S A s.heap H locs → lv_has ls 3 [(1, .int (nI k)), (0, .ref h0)] → W p l e (headSpec px_s10 ({ frames := 13, cells := 429, slots := 447525, locals := 338 })).room s m ([.ref h0]).toArray below meth c H locs (357 + 2 * k) (441657 + 163 * k) Q (F0 m 374 ls []) := by
    intro j
    induction j with
    | zero =>
      intro k fw fm fo fz H locs ls hk hP hD hS hl
      refine lv_iload_n hx hb px_d10_374 rfl (lv_at hl 0 rfl) ?_
      refine lv_bipush (v := 36) hx hb px_d10_375 (by decide) ?_
      refine lv_icmp_ge (tgt := 399) hx hb px_d10_377 (by decide) (fun _ => ?_) (fun h9 => absurd (show nI 36 ≤ nI k from nI_le (by omega) (by omega)) h9)
      refine W.widen (k := 429) (n := 447525) (by omega) (by omega) ?_
      refine lv_iconst (v := 0) hx hb px_d10_399 (by decide) ?_
      refine lv_istore_n (lv' := [(1, .int 0), (0, .ref h0)]) hx hb px_d10_400 rfl hl (by decide) rfl (fun ls hl => ?_)
      refine lv_iconst (v := 0) hx hb px_d10_401 (by decide) ?_
      refine lv_istore_n (lv' := [(2, .int 0), (1, .int 0), (0, .ref h0)]) hx hb px_d10_402 rfl hl (by decide) rfl (fun ls hl => ?_)
      have hl : lv_has ls 3 [(2, .int 0), (1, .int 0), (0, .ref h0)] := hl
      exact lp3 13 0 fw fm fo fz H locs ls (by omega) (fun k h => absurd h (Nat.not_lt_zero k)) hP hD hS hl
    | succ j ih =>
      intro k fw fm fo fz H locs ls hk hP hD hS hl
      refine lv_iload_n hx hb px_d10_374 rfl (lv_at hl 0 rfl) ?_
      refine lv_bipush (v := 36) hx hb px_d10_375 (by decide) ?_
      refine lv_icmp_ge (tgt := 399) hx hb px_d10_377 (by decide) (fun h9 => absurd h9 (show ¬ nI 36 ≤ nI k from nI_ge (by omega) (by omega))) (fun _ => ?_)
      refine lv_aload_n hx hb px_d10_380 rfl (lv_at hl 1 rfl) ?_
      refine va_get (D := (dC, dI)) (ci := 8) (v := .ref q_21) (C := "MatroidDeskModel") (T := px_T8) (N := 53) hx hb htw px_in8 hown hK hP 0 rfl rfl 16 (by decide) (htw _ px_w263) (fun _ h9 => h9) hk_16 px_d10_381 ?_
      refine lv_iload_n hx hb px_d10_384 rfl (lv_at hl 0 rfl) ?_
      refine va_new (ci := 9) (fs := [.null, .int 0, .int 0]) (C := "MatroidDeskModel$Num") (T := px_T9) (N := 3) hx hb htw px_in9 px_ty9 px_tyok9 hown (htw _ px_w249) (htw _ px_w150) (htw _ px_w149) hK hP hD hS hA rfl px_df9 (show 357 + 2 * k + 1 ≤ 429 by omega) (show 441657 + 163 * k + 3 ≤ 447525 by omega) px_d10_385 (fun q H hP hD hS => ?_)
      have hP : va_P (dC, dI) vwCl [(h0, .inr (8, fs38)), (q_16, .inl (cA_8, 156, .inr (.inr (.inr (.inr fw))))), (q_21, .inl (cA_13, 36, .inr (.inr (.inr (.inr fm))))), (q_23, .inl (cA_15, 26, .inl (fun _ => 0))), (q_32, .inl (cA_24, 4096, .inl fo)), (q_33, .inl (cA_25, 4096, .inl fz)), (q_44, .inl (cA_36, 16384, .inl (fun _ => 0))), (q, .inr (9, [.null, .int 0, .int 0]))] H := hP
      have hD : va_D A [(h0, .inr (8, fs38)), (q_16, .inl (cA_8, 156, .inr (.inr (.inr (.inr fw))))), (q_21, .inl (cA_13, 36, .inr (.inr (.inr (.inr fm))))), (q_23, .inl (cA_15, 26, .inl (fun _ => 0))), (q_32, .inl (cA_24, 4096, .inl fo)), (q_33, .inl (cA_25, 4096, .inl fz)), (q_44, .inl (cA_36, 16384, .inl (fun _ => 0))), (q, .inr (9, [.null, .int 0, .int 0]))] := hD
      refine W.widen (k := 357 + 2 * k + 1) (n := 441657 + 163 * k + 3) (by omega) (by omega) ?_
      refine lv_dup hx hb px_d10_388 rfl ?_
      have hPc := hP.sub (ws' := [(q, .inr (9, [.null, .int 0, .int 0]))]) [7] rfl
      have hDc := hD.sub (ws' := [(q, .inr (9, [.null, .int 0, .int 0]))]) [7] (by decide) rfl
      have hKc := hK.sub (tys' := []) [] rfl
      have hFc := va_free (wc := [(q, .inr (9, [.null, .int 0, .int 0]))]) hD hS hA [7] rfl
      refine va_callv (va_runIN (As := []) (rest := [.ref q, .int (nI k), .ref q_21]) ⟨hx, hb, hml, hown, htw⟩ (px_Num_init l dC dI H.size q) ⟨(va_cnB 0 htw px_g8 rfl rfl rfl (hN.2.1 ("MatroidDeskModel", 152, px_y8, "MatroidDeskModel") (by decide)) (htw _ px_w149) (by decide +kernel) ⟨Nat.le_of_ble_eq_true rfl, Nat.le_of_ble_eq_true rfl⟩), rfl, (htw _ px_w237)⟩ ⟨fun a U g mk q => by obtain ⟨q0, q1, qP, qK, qD, qN⟩ := q; exact ⟨q0, q1, qP, va_K.moved (u := U) (U := U.calling g mk a) (Vm.Alike.refl U.vm) qK, qD, qN.same rfl⟩, fun U hU hW => ⟨rfl, by rw [hU], by rw [hU]; exact hPc, va_K.moved hW.alike hKc, hDc.weaken (fun _ _ _ _ => trivial), hN.warm hW⟩⟩ rfl rfl hl.1 rfl (lv_room (Nat.le_of_ble_eq_true rfl)) px_d10_389 ⟨(show 357 + 2 * k + 2 ≤ 429 by omega), (show 441657 + 163 * k + 163 ≤ 447525 by omega)⟩) hS (fun q _ h => hFc q h) hFc (fun u t H1 locs ht hvm hw_389 hB hz1 hk1 hS => ?_)
      obtain ⟨q_1, cA, hP1, hK1, hD1⟩ := hB
      rw [ht] at hP1
      have hK1 := va_K.moved hvm.symm hK1
      obtain ⟨hP, hD⟩ := va_join (wr := [(h0, .inr (8, fs38)), (q_16, .inl (cA_8, 156, .inr (.inr (.inr (.inr fw))))), (q_21, .inl (cA_13, 36, .inr (.inr (.inr (.inr fm))))), (q_23, .inl (cA_15, 26, .inl (fun _ => 0))), (q_32, .inl (cA_24, 4096, .inl fo)), (q_33, .inl (cA_25, 4096, .inl fz)), (q_44, .inl (cA_36, 16384, .inl (fun _ => 0)))]) (w1 := [(q, .inr (9, [.ref q_1, .int 0, .int 0])), (q_1, .inl (cA, 160, .inl (fun _ => 0)))]) hP hD [7] [0, 1, 2, 3, 4, 5, 6] rfl rfl (by decide) (by decide) hk1 hFc hP1 hD1
      generalize H1 = H at hP hS ⊢
      have hP : va_P (dC, dI) vwCl [(h0, .inr (8, fs38)), (q_16, .inl (cA_8, 156, .inr (.inr (.inr (.inr fw))))), (q_21, .inl (cA_13, 36, .inr (.inr (.inr (.inr fm))))), (q_23, .inl (cA_15, 26, .inl (fun _ => 0))), (q_32, .inl (cA_24, 4096, .inl fo)), (q_33, .inl (cA_25, 4096, .inl fz)), (q_44, .inl (cA_36, 16384, .inl (fun _ => 0))), (q, .inr (9, [.ref q_1, .int 0, .int 0])), (q_1, .inl (cA, 160, .inl (fun _ => 0)))] H := hP
      have hD : va_D A [(h0, .inr (8, fs38)), (q_16, .inl (cA_8, 156, .inr (.inr (.inr (.inr fw))))), (q_21, .inl (cA_13, 36, .inr (.inr (.inr (.inr fm))))), (q_23, .inl (cA_15, 26, .inl (fun _ => 0))), (q_32, .inl (cA_24, 4096, .inl fo)), (q_33, .inl (cA_25, 4096, .inl fz)), (q_44, .inl (cA_36, 16384, .inl (fun _ => 0))), (q, .inr (9, [.ref q_1, .int 0, .int 0])), (q_1, .inl (cA, 160, .inl (fun _ => 0)))] := hD
      refine W.widen (k := 357 + 2 * k + 2) (n := 441657 + 163 * k + 163) (by omega) (by omega) ?_
      refine va_astq hx hb hK hP hD hS 2 13 7 9 rfl rfl rfl rfl (vp_in_nI (show k < 36 by omega) (by decide)) px_d10_392 (fun H locs hP hD hS => ?_)
      have hP : va_P (dC, dI) vwCl [(h0, .inr (8, fs38)), (q_16, .inl (cA_8, 156, .inr (.inr (.inr (.inr fw))))), (q_21, .inl (cA_13, 36, .inr (.inr (.inr (.inr (va_up fm (Int32.toNatClampNeg (nI k)) (some q))))))), (q_23, .inl (cA_15, 26, .inl (fun _ => 0))), (q_32, .inl (cA_24, 4096, .inl fo)), (q_33, .inl (cA_25, 4096, .inl fz)), (q_44, .inl (cA_36, 16384, .inl (fun _ => 0))), (q, .inr (9, [.ref q_1, .int 0, .int 0])), (q_1, .inl (cA, 160, .inl (fun _ => 0)))] H := hP
      have hD : va_D A [(h0, .inr (8, fs38)), (q_16, .inl (cA_8, 156, .inr (.inr (.inr (.inr fw))))), (q_21, .inl (cA_13, 36, .inr (.inr (.inr (.inr (va_up fm (Int32.toNatClampNeg (nI k)) (some q))))))), (q_23, .inl (cA_15, 26, .inl (fun _ => 0))), (q_32, .inl (cA_24, 4096, .inl fo)), (q_33, .inl (cA_25, 4096, .inl fz)), (q_44, .inl (cA_36, 16384, .inl (fun _ => 0))), (q, .inr (9, [.ref q_1, .int 0, .int 0])), (q_1, .inl (cA, 160, .inl (fun _ => 0)))] := hD
      have hP := hP.sub (ws' := [(h0, .inr (8, fs38)), (q_16, .inl (cA_8, 156, .inr (.inr (.inr (.inr fw))))), (q_21, .inl (cA_13, 36, .inr (.inr (.inr (.inr (va_up fm (Int32.toNatClampNeg (nI k)) (some q))))))), (q_23, .inl (cA_15, 26, .inl (fun _ => 0))), (q_32, .inl (cA_24, 4096, .inl fo)), (q_33, .inl (cA_25, 4096, .inl fz)), (q_44, .inl (cA_36, 16384, .inl (fun _ => 0)))]) [0, 1, 2, 3, 4, 5, 6] rfl
      have hD := hD.sub (ws' := [(h0, .inr (8, fs38)), (q_16, .inl (cA_8, 156, .inr (.inr (.inr (.inr fw))))), (q_21, .inl (cA_13, 36, .inr (.inr (.inr (.inr (va_up fm (Int32.toNatClampNeg (nI k)) (some q))))))), (q_23, .inl (cA_15, 26, .inl (fun _ => 0))), (q_32, .inl (cA_24, 4096, .inl fo)), (q_33, .inl (cA_25, 4096, .inl fz)), (q_44, .inl (cA_36, 16384, .inl (fun _ => 0)))]) [0, 1, 2, 3, 4, 5, 6] (by decide) rfl
      refine lv_iinc (v := nI (k + 1)) (lv' := [(1, .int (nI (k + 1))), (0, .ref h0)]) hx hb px_d10_393 hl (k := 0) rfl (show nI k + 1 = nI (k + 1) from nI_1 k) (by decide) rfl (fun ls hl => ?_)
      refine lv_goto (tgt := 374) hx hb px_d10_396 (by decide) ?_
      refine W.widen (k := 357 + 2 * (k + 1)) (n := 441657 + 163 * (k + 1)) (by omega) (by omega) ?_
      exact ih (k + 1) fw _ fo fz H locs ls (by omega) hP hD hS hl
  have lp1 : ∀ (j k : Nat) (fw fm : Nat → Option Nat) (fo fz : Nat → Int32) (H : Heap) (locs : List Loc) (ls : Array Slot), k + j = 156 → va_P (dC, dI) vwCl [(h0, .inr (8, fs38)), (q_16, .inl (cA_8, 156, .inr (.inr (.inr (.inr fw))))), (q_21, .inl (cA_13, 36, .inr (.inr (.inr (.inr fm))))), (q_23, .inl (cA_15, 26, .inl (fun _ => 0))), (q_32, .inl (cA_24, 4096, .inl fo)), (q_33, .inl (cA_25, 4096, .inl fz)), (q_44, .inl (cA_36, 16384, .inl (fun _ => 0)))] H → va_D A [(h0, .inr (8, fs38)), (q_16, .inl (cA_8, 156, .inr (.inr (.inr (.inr fw))))), (q_21, .inl (cA_13, 36, .inr (.inr (.inr (.inr fm))))), (q_23, .inl (cA_15, 26, .inl (fun _ => 0))), (q_32, .inl (cA_24, 4096, .inl fo)), (q_33, .inl (cA_25, 4096, .inl fz)), (q_44, .inl (cA_36, 16384, .inl (fun _ => 0)))] → va_S A s.heap H locs → lv_has ls 3 [(1, .int (nI k)), (0, .ref h0)] → W p l e (headSpec px_s10 ({ frames := 13, cells := 429, slots := 447525, locals := 338 })).room s m ([.ref h0]).toArray below meth c H locs (45 + 2 * k) (416229 + 163 * k) Q (F0 m 346 ls []) := by
    intro j
    induction j with
    | zero =>
      intro k fw fm fo fz H locs ls hk hP hD hS hl
      refine lv_iload_n hx hb px_d10_346 rfl (lv_at hl 0 rfl) ?_
      refine lv_sipush (v := 156) hx hb px_d10_347 (by decide) ?_
      refine lv_icmp_ge (tgt := 372) hx hb px_d10_350 (by decide) (fun _ => ?_) (fun h9 => absurd (show nI 156 ≤ nI k from nI_le (by omega) (by omega)) h9)
      refine lv_iconst (v := 0) hx hb px_d10_372 (by decide) ?_
      refine lv_istore_n (lv' := [(1, .int 0), (0, .ref h0)]) hx hb px_d10_373 rfl hl (by decide) rfl (fun ls hl => ?_)
      refine W.widen (k := 357 + 2 * 0) (n := 441657 + 163 * 0) (by omega) (by omega) ?_
      exact lp2 36 0 fw fm fo fz H locs ls (by omega) hP hD hS hl
    | succ j ih =>
      intro k fw fm fo fz H locs ls hk hP hD hS hl
      refine lv_iload_n hx hb px_d10_346 rfl (lv_at hl 0 rfl) ?_
      refine lv_sipush (v := 156) hx hb px_d10_347 (by decide) ?_
      refine lv_icmp_ge (tgt := 372) hx hb px_d10_350 (by decide) (fun h9 => absurd h9 (show ¬ nI 156 ≤ nI k from nI_ge (by omega) (by omega))) (fun _ => ?_)
      refine lv_aload_n hx hb px_d10_353 rfl (lv_at hl 1 rfl) ?_
      refine va_get (D := (dC, dI)) (ci := 8) (v := .ref q_16) (C := "MatroidDeskModel") (T := px_T8) (N := 53) hx hb htw px_in8 hown hK hP 0 rfl rfl 8 (by decide) (htw _ px_w258) (fun _ h9 => h9) hk_8 px_d10_354 ?_
      refine lv_iload_n hx hb px_d10_357 rfl (lv_at hl 0 rfl) ?_
      refine va_new (ci := 9) (fs := [.null, .int 0, .int 0]) (C := "MatroidDeskModel$Num") (T := px_T9) (N := 3) hx hb htw px_in9 px_ty9 px_tyok9 hown (htw _ px_w249) (htw _ px_w150) (htw _ px_w149) hK hP hD hS hA rfl px_df9 (show 45 + 2 * k + 1 ≤ 429 by omega) (show 416229 + 163 * k + 3 ≤ 447525 by omega) px_d10_358 (fun q H hP hD hS => ?_)
      have hP : va_P (dC, dI) vwCl [(h0, .inr (8, fs38)), (q_16, .inl (cA_8, 156, .inr (.inr (.inr (.inr fw))))), (q_21, .inl (cA_13, 36, .inr (.inr (.inr (.inr fm))))), (q_23, .inl (cA_15, 26, .inl (fun _ => 0))), (q_32, .inl (cA_24, 4096, .inl fo)), (q_33, .inl (cA_25, 4096, .inl fz)), (q_44, .inl (cA_36, 16384, .inl (fun _ => 0))), (q, .inr (9, [.null, .int 0, .int 0]))] H := hP
      have hD : va_D A [(h0, .inr (8, fs38)), (q_16, .inl (cA_8, 156, .inr (.inr (.inr (.inr fw))))), (q_21, .inl (cA_13, 36, .inr (.inr (.inr (.inr fm))))), (q_23, .inl (cA_15, 26, .inl (fun _ => 0))), (q_32, .inl (cA_24, 4096, .inl fo)), (q_33, .inl (cA_25, 4096, .inl fz)), (q_44, .inl (cA_36, 16384, .inl (fun _ => 0))), (q, .inr (9, [.null, .int 0, .int 0]))] := hD
      refine W.widen (k := 45 + 2 * k + 1) (n := 416229 + 163 * k + 3) (by omega) (by omega) ?_
      refine lv_dup hx hb px_d10_361 rfl ?_
      have hPc := hP.sub (ws' := [(q, .inr (9, [.null, .int 0, .int 0]))]) [7] rfl
      have hDc := hD.sub (ws' := [(q, .inr (9, [.null, .int 0, .int 0]))]) [7] (by decide) rfl
      have hKc := hK.sub (tys' := []) [] rfl
      have hFc := va_free (wc := [(q, .inr (9, [.null, .int 0, .int 0]))]) hD hS hA [7] rfl
      refine va_callv (va_runIN (As := []) (rest := [.ref q, .int (nI k), .ref q_16]) ⟨hx, hb, hml, hown, htw⟩ (px_Num_init l dC dI H.size q) ⟨(va_cnB 0 htw px_g8 rfl rfl rfl (hN.2.1 ("MatroidDeskModel", 152, px_y8, "MatroidDeskModel") (by decide)) (htw _ px_w149) (by decide +kernel) ⟨Nat.le_of_ble_eq_true rfl, Nat.le_of_ble_eq_true rfl⟩), rfl, (htw _ px_w237)⟩ ⟨fun a U g mk q => by obtain ⟨q0, q1, qP, qK, qD, qN⟩ := q; exact ⟨q0, q1, qP, va_K.moved (u := U) (U := U.calling g mk a) (Vm.Alike.refl U.vm) qK, qD, qN.same rfl⟩, fun U hU hW => ⟨rfl, by rw [hU], by rw [hU]; exact hPc, va_K.moved hW.alike hKc, hDc.weaken (fun _ _ _ _ => trivial), hN.warm hW⟩⟩ rfl rfl hl.1 rfl (lv_room (Nat.le_of_ble_eq_true rfl)) px_d10_362 ⟨(show 45 + 2 * k + 2 ≤ 429 by omega), (show 416229 + 163 * k + 163 ≤ 447525 by omega)⟩) hS (fun q _ h => hFc q h) hFc (fun u t H1 locs ht hvm hw_362 hB hz1 hk1 hS => ?_)
      obtain ⟨q_1, cA, hP1, hK1, hD1⟩ := hB
      rw [ht] at hP1
      have hK1 := va_K.moved hvm.symm hK1
      obtain ⟨hP, hD⟩ := va_join (wr := [(h0, .inr (8, fs38)), (q_16, .inl (cA_8, 156, .inr (.inr (.inr (.inr fw))))), (q_21, .inl (cA_13, 36, .inr (.inr (.inr (.inr fm))))), (q_23, .inl (cA_15, 26, .inl (fun _ => 0))), (q_32, .inl (cA_24, 4096, .inl fo)), (q_33, .inl (cA_25, 4096, .inl fz)), (q_44, .inl (cA_36, 16384, .inl (fun _ => 0)))]) (w1 := [(q, .inr (9, [.ref q_1, .int 0, .int 0])), (q_1, .inl (cA, 160, .inl (fun _ => 0)))]) hP hD [7] [0, 1, 2, 3, 4, 5, 6] rfl rfl (by decide) (by decide) hk1 hFc hP1 hD1
      generalize H1 = H at hP hS ⊢
      have hP : va_P (dC, dI) vwCl [(h0, .inr (8, fs38)), (q_16, .inl (cA_8, 156, .inr (.inr (.inr (.inr fw))))), (q_21, .inl (cA_13, 36, .inr (.inr (.inr (.inr fm))))), (q_23, .inl (cA_15, 26, .inl (fun _ => 0))), (q_32, .inl (cA_24, 4096, .inl fo)), (q_33, .inl (cA_25, 4096, .inl fz)), (q_44, .inl (cA_36, 16384, .inl (fun _ => 0))), (q, .inr (9, [.ref q_1, .int 0, .int 0])), (q_1, .inl (cA, 160, .inl (fun _ => 0)))] H := hP
      have hD : va_D A [(h0, .inr (8, fs38)), (q_16, .inl (cA_8, 156, .inr (.inr (.inr (.inr fw))))), (q_21, .inl (cA_13, 36, .inr (.inr (.inr (.inr fm))))), (q_23, .inl (cA_15, 26, .inl (fun _ => 0))), (q_32, .inl (cA_24, 4096, .inl fo)), (q_33, .inl (cA_25, 4096, .inl fz)), (q_44, .inl (cA_36, 16384, .inl (fun _ => 0))), (q, .inr (9, [.ref q_1, .int 0, .int 0])), (q_1, .inl (cA, 160, .inl (fun _ => 0)))] := hD
      refine W.widen (k := 45 + 2 * k + 2) (n := 416229 + 163 * k + 163) (by omega) (by omega) ?_
      refine va_astq hx hb hK hP hD hS 1 8 7 9 rfl rfl rfl rfl (vp_in_nI (show k < 156 by omega) (by decide)) px_d10_365 (fun H locs hP hD hS => ?_)
      have hP : va_P (dC, dI) vwCl [(h0, .inr (8, fs38)), (q_16, .inl (cA_8, 156, .inr (.inr (.inr (.inr (va_up fw (Int32.toNatClampNeg (nI k)) (some q))))))), (q_21, .inl (cA_13, 36, .inr (.inr (.inr (.inr fm))))), (q_23, .inl (cA_15, 26, .inl (fun _ => 0))), (q_32, .inl (cA_24, 4096, .inl fo)), (q_33, .inl (cA_25, 4096, .inl fz)), (q_44, .inl (cA_36, 16384, .inl (fun _ => 0))), (q, .inr (9, [.ref q_1, .int 0, .int 0])), (q_1, .inl (cA, 160, .inl (fun _ => 0)))] H := hP
      have hD : va_D A [(h0, .inr (8, fs38)), (q_16, .inl (cA_8, 156, .inr (.inr (.inr (.inr (va_up fw (Int32.toNatClampNeg (nI k)) (some q))))))), (q_21, .inl (cA_13, 36, .inr (.inr (.inr (.inr fm))))), (q_23, .inl (cA_15, 26, .inl (fun _ => 0))), (q_32, .inl (cA_24, 4096, .inl fo)), (q_33, .inl (cA_25, 4096, .inl fz)), (q_44, .inl (cA_36, 16384, .inl (fun _ => 0))), (q, .inr (9, [.ref q_1, .int 0, .int 0])), (q_1, .inl (cA, 160, .inl (fun _ => 0)))] := hD
      have hP := hP.sub (ws' := [(h0, .inr (8, fs38)), (q_16, .inl (cA_8, 156, .inr (.inr (.inr (.inr (va_up fw (Int32.toNatClampNeg (nI k)) (some q))))))), (q_21, .inl (cA_13, 36, .inr (.inr (.inr (.inr fm))))), (q_23, .inl (cA_15, 26, .inl (fun _ => 0))), (q_32, .inl (cA_24, 4096, .inl fo)), (q_33, .inl (cA_25, 4096, .inl fz)), (q_44, .inl (cA_36, 16384, .inl (fun _ => 0)))]) [0, 1, 2, 3, 4, 5, 6] rfl
      have hD := hD.sub (ws' := [(h0, .inr (8, fs38)), (q_16, .inl (cA_8, 156, .inr (.inr (.inr (.inr (va_up fw (Int32.toNatClampNeg (nI k)) (some q))))))), (q_21, .inl (cA_13, 36, .inr (.inr (.inr (.inr fm))))), (q_23, .inl (cA_15, 26, .inl (fun _ => 0))), (q_32, .inl (cA_24, 4096, .inl fo)), (q_33, .inl (cA_25, 4096, .inl fz)), (q_44, .inl (cA_36, 16384, .inl (fun _ => 0)))]) [0, 1, 2, 3, 4, 5, 6] (by decide) rfl
      refine lv_iinc (v := nI (k + 1)) (lv' := [(1, .int (nI (k + 1))), (0, .ref h0)]) hx hb px_d10_366 hl (k := 0) rfl (show nI k + 1 = nI (k + 1) from nI_1 k) (by decide) rfl (fun ls hl => ?_)
      refine lv_goto (tgt := 346) hx hb px_d10_369 (by decide) ?_
      refine W.widen (k := 45 + 2 * (k + 1)) (n := 416229 + 163 * (k + 1)) (by omega) (by omega) ?_
      exact ih (k + 1) _ fm fo fz H locs ls (by omega) hP hD hS hl
  refine W.widen (k := 45 + 2 * 0) (n := 416229 + 163 * 0) (by omega) (by omega) ?_
  exact lp1 156 0 _ _ _ _ H locs ls (by omega) hP hD hS hl
