set_option maxHeartbeats 4000000 in
set_option maxRecDepth 100000 in
/-- take -/
theorem px_M_take (l : Launch) (dC : Nat → ClassId) (dI : Nat → Nat → Nat) (sz : Nat) (h0 : Nat) (fs : List Value) (qc : Nat) (cc : ClassId) (k : Nat) (f : Nat → Int32) (x : Int32) (hlen : fs.length = 53) (hk_50 : fs[50]? = some (.ref qc)) (hk_51 : fs[51]? = some (.int (nI k))) (hk : k + 4 ≤ 16384) : Met l px_y41 px_s41 ({ frames := 0, cells := 0, slots := 0, locals := 0 }) (va_Pc [.ref h0, .int x] (fun U => U.heap.size = sz ∧ va_P (dC, dI) vwCl [(h0, .inr (8, fs)), (qc, .inl (cc, 16384, .inl f))] U.heap ∧ va_K (dC, dI) vwCl [(cc, .byte)] U ∧ va_D (fun _ => True) [(h0, .inr (8, fs)), (qc, .inl (cc, 16384, .inl f))] ∧ px_N U)) (va_Qv (fun (_ : Unit) => True) (fun (_ : Unit) (t : State) => ∃ (f1 : Nat → Int32), va_P (dC, dI) vwCl [(h0, .inr (8, ((((fs.set 51 (.int (nI (k + 1)))).set 51 (.int (nI (k + 2)))).set 51 (.int (nI (k + 3)))).set 51 (.int (nI (k + 4)))))), (qc, .inl (cc, 16384, .inl f1))] t.heap ∧ va_K (dC, dI) vwCl [(cc, .byte)] t ∧ va_D (va_A [(h0, .inr (8, fs)), (qc, .inl (cc, 16384, .inl f))] sz) [(h0, .inr (8, ((((fs.set 51 (.int (nI (k + 1)))).set 51 (.int (nI (k + 2)))).set 51 (.int (nI (k + 3)))).set 51 (.int (nI (k + 4)))))), (qc, .inl (cc, 16384, .inl f1))]) (va_A [(h0, .inr (8, fs)), (qc, .inl (cc, 16384, .inl f))] sz)) 0 0 (va_A [(h0, .inr (8, fs)), (qc, .inl (cc, 16384, .inl f))] sz) := by
  refine Met.ofW (cc := prog_15_method_89_code) (maxL := 3) (ret := none) (by decide) rfl ?_
  intro p e s m args below meth c s₁ B hml hv
  obtain ⟨rfl, hsz, hP, hK, hD0, hN⟩ := hv
  have hx := B.exec
  have hb := B.bytes
  have hr := B.returns
  have htw : ∀ w ∈ px_all, w.before _ s = true := fun w h => atoms_spec (ws := px_s41) B.pre w (List.mem_cons_of_mem _ h)
  have hown : s.vm.findClass "MatroidDeskModel" = some m.cls := findClass_of_methodNamed B.named
  have hlocks := B.notSynchronized
  subst hsz
  have hD := hD0.self (sz := s.heap.size)
  generalize hAe : va_A [(h0, .inr (8, fs)), (qc, .inl (cc, 16384, .inl f))] s.heap.size = A at hD ⊢
  have hA : ∀ q : Nat, s.heap.size ≤ q → A q := fun q h => by rw [← hAe]; exact Or.inr h
  have hS : va_S A s.heap s.heap [] := va_S.rf
  have hP : va_P (dC, dI) vwCl [(h0, .inr (8, fs)), (qc, .inl (cc, 16384, .inl f))] s.heap := hP
  have hl := lv_entry ([.ref h0, .int x]) (n := 3) (Nat.le_of_ble_eq_true rfl)
  rw [lg_entry_eq]
  generalize (lg_sl ([.ref h0, .int x]) ++ List.replicate (3 - (lg_sl ([.ref h0, .int x])).length) Slot.unset).toArray = ls at hl ⊢
  have hl : lv_has ls 3 [(0, .ref h0), (1, .int x)] := hl
  refine lv_bipush (v := 24) hx hb px_d41_0 (by decide) ?_
  refine lv_istore_n (lv' := [(2, .int 24), (0, .ref h0), (1, .int x)]) hx hb px_d41_2 rfl hl (by decide) rfl (fun ls hl => ?_)
  refine lv_iload_n hx hb px_d41_3 rfl (lv_at hl 0 rfl) ?_
  refine lv_if_lt (tgt := 36) hx hb px_d41_4 (by decide) (fun h9 => absurd h9 (by decide +kernel)) (fun _ => ?_)
  refine lv_aload_n hx hb px_d41_7 rfl (lv_at hl 1 rfl) ?_
  refine va_get (D := (dC, dI)) (ci := 8) (v := .ref qc) (C := "MatroidDeskModel") (T := px_T8) (N := 53) hx hb htw px_in8 hown hK hP 0 rfl rfl 50 (by decide) (htw _ px_w288) (fun _ h9 => h9) hk_50 px_d41_8 ?_
  refine lv_aload_n hx hb px_d41_11 rfl (lv_at hl 1 rfl) ?_
  refine va_get (D := (dC, dI)) (ci := 8) (v := .int (nI k)) (C := "MatroidDeskModel") (T := px_T8) (N := 53) hx hb htw px_in8 hown hK hP 0 rfl rfl 51 (by decide) (htw _ px_w398) (fun _ h9 => h9) hk_51 px_d41_12 ?_
  refine lv_iload_n hx hb px_d41_15 rfl (lv_at hl 2 rfl) ?_
  refine lv_iload_n hx hb px_d41_16 rfl (lv_at hl 0 rfl) ?_
  refine lv_ishr hx hb px_d41_17 ?_
  refine lv_i2b (v := (x >>> (24 &&& 31)).toInt8.toInt32) hx hb px_d41_18 rfl ?_
  refine va_bast hx hb hK hP hD hS 1 0 rfl rfl (vp_in_nI (show k < 16384 by omega) (by decide)) px_d41_19 (fun H locs hP hD hS => ?_)
  have hP : va_P (dC, dI) vwCl [(h0, .inr (8, fs)), (qc, .inl (cc, 16384, .inl (upd f (Int32.toNatClampNeg (nI k)) (vp_nar .byte ((x >>> (24 &&& 31)).toInt8.toInt32)))))] H := hP
  have hD : va_D A [(h0, .inr (8, fs)), (qc, .inl (cc, 16384, .inl (upd f (Int32.toNatClampNeg (nI k)) (vp_nar .byte ((x >>> (24 &&& 31)).toInt8.toInt32)))))] := hD
  refine lv_aload_n hx hb px_d41_20 rfl (lv_at hl 1 rfl) ?_
  refine lv_dup hx hb px_d41_21 rfl ?_
  refine va_get (D := (dC, dI)) (ci := 8) (v := .int (nI k)) (C := "MatroidDeskModel") (T := px_T8) (N := 53) hx hb htw px_in8 hown hK hP 0 rfl rfl 51 (by decide) (htw _ px_w398) (fun _ h9 => h9) hk_51 px_d41_22 ?_
  refine lv_iconst (v := 1) hx hb px_d41_25 (by decide) ?_
  refine lv_iadd hx hb px_d41_26 ?_
  refine lv_topi (nm_r (e' := (nI (k + 1))) (nI_1 k) ?_)
  refine va_put (D := (dC, dI)) (ci := 8) (v := .int (nI (k + 1))) (ty := .int) (C := "MatroidDeskModel") (T := px_T8) (N := 53) hx hb htw px_in8 px_ty8 px_tyok8 px_nm8 hown hK hP hD hS 0 rfl rfl 51 (by decide) (htw _ px_w398) (fun _ h9 => h9) rfl (by decide +kernel) rfl rfl (by rw [hlen]; decide) px_d41_27 (fun H locs hP hD hS => ?_)
  have hP : va_P (dC, dI) vwCl [(h0, .inr (8, (fs.set 51 (.int (nI (k + 1)))))), (qc, .inl (cc, 16384, .inl (upd f (Int32.toNatClampNeg (nI k)) (vp_nar .byte ((x >>> (24 &&& 31)).toInt8.toInt32)))))] H := hP
  have hD : va_D A [(h0, .inr (8, (fs.set 51 (.int (nI (k + 1)))))), (qc, .inl (cc, 16384, .inl (upd f (Int32.toNatClampNeg (nI k)) (vp_nar .byte ((x >>> (24 &&& 31)).toInt8.toInt32)))))] := hD
  refine lv_iinc (v := 16) (lv' := [(2, .int 16), (0, .ref h0), (1, .int x)]) hx hb px_d41_30 hl (k := 0) rfl (by decide +kernel) (by decide) rfl (fun ls hl => ?_)
  refine lv_goto (tgt := 3) hx hb px_d41_33 (by decide) ?_
  refine lv_iload_n hx hb px_d41_3 rfl (lv_at hl 0 rfl) ?_
  refine lv_if_lt (tgt := 36) hx hb px_d41_4 (by decide) (fun h9 => absurd h9 (by decide +kernel)) (fun _ => ?_)
  refine lv_aload_n hx hb px_d41_7 rfl (lv_at hl 1 rfl) ?_
  refine va_get (D := (dC, dI)) (ci := 8) (v := .ref qc) (C := "MatroidDeskModel") (T := px_T8) (N := 53) hx hb htw px_in8 hown hK hP 0 rfl rfl 50 (by decide) (htw _ px_w288) (fun _ h9 => h9) ((px_sn (by decide)).trans hk_50) px_d41_8 ?_
  refine lv_aload_n hx hb px_d41_11 rfl (lv_at hl 1 rfl) ?_
  refine va_get (D := (dC, dI)) (ci := 8) (v := .int (nI (k + 1))) (C := "MatroidDeskModel") (T := px_T8) (N := 53) hx hb htw px_in8 hown hK hP 0 rfl rfl 51 (by decide) (htw _ px_w398) (fun _ h9 => h9) (px_ss hlen (by decide)) px_d41_12 ?_
  refine lv_iload_n hx hb px_d41_15 rfl (lv_at hl 2 rfl) ?_
  refine lv_iload_n hx hb px_d41_16 rfl (lv_at hl 0 rfl) ?_
  refine lv_ishr hx hb px_d41_17 ?_
  refine lv_i2b (v := (x >>> (16 &&& 31)).toInt8.toInt32) hx hb px_d41_18 rfl ?_
  refine va_bast hx hb hK hP hD hS 1 0 rfl rfl (vp_in_nI (show k + 1 < 16384 by omega) (by decide)) px_d41_19 (fun H locs hP hD hS => ?_)
  have hP : va_P (dC, dI) vwCl [(h0, .inr (8, (fs.set 51 (.int (nI (k + 1)))))), (qc, .inl (cc, 16384, .inl (upd (upd f (Int32.toNatClampNeg (nI k)) (vp_nar .byte ((x >>> (24 &&& 31)).toInt8.toInt32))) (Int32.toNatClampNeg (nI (k + 1))) (vp_nar .byte ((x >>> (16 &&& 31)).toInt8.toInt32)))))] H := hP
  have hD : va_D A [(h0, .inr (8, (fs.set 51 (.int (nI (k + 1)))))), (qc, .inl (cc, 16384, .inl (upd (upd f (Int32.toNatClampNeg (nI k)) (vp_nar .byte ((x >>> (24 &&& 31)).toInt8.toInt32))) (Int32.toNatClampNeg (nI (k + 1))) (vp_nar .byte ((x >>> (16 &&& 31)).toInt8.toInt32)))))] := hD
  refine lv_aload_n hx hb px_d41_20 rfl (lv_at hl 1 rfl) ?_
  refine lv_dup hx hb px_d41_21 rfl ?_
  refine va_get (D := (dC, dI)) (ci := 8) (v := .int (nI (k + 1))) (C := "MatroidDeskModel") (T := px_T8) (N := 53) hx hb htw px_in8 hown hK hP 0 rfl rfl 51 (by decide) (htw _ px_w398) (fun _ h9 => h9) (px_ss hlen (by decide)) px_d41_22 ?_
  refine lv_iconst (v := 1) hx hb px_d41_25 (by decide) ?_
  refine lv_iadd hx hb px_d41_26 ?_
  refine lv_topi (nm_r (e' := (nI (k + 2))) (nI_1 (k + 1)) ?_)
  refine va_put (D := (dC, dI)) (ci := 8) (v := .int (nI (k + 2))) (ty := .int) (C := "MatroidDeskModel") (T := px_T8) (N := 53) hx hb htw px_in8 px_ty8 px_tyok8 px_nm8 hown hK hP hD hS 0 rfl rfl 51 (by decide) (htw _ px_w398) (fun _ h9 => h9) rfl (by decide +kernel) rfl rfl (by rw [(px_sl hlen)]; decide) px_d41_27 (fun H locs hP hD hS => ?_)
  have hP : va_P (dC, dI) vwCl [(h0, .inr (8, ((fs.set 51 (.int (nI (k + 1)))).set 51 (.int (nI (k + 2)))))), (qc, .inl (cc, 16384, .inl (upd (upd f (Int32.toNatClampNeg (nI k)) (vp_nar .byte ((x >>> (24 &&& 31)).toInt8.toInt32))) (Int32.toNatClampNeg (nI (k + 1))) (vp_nar .byte ((x >>> (16 &&& 31)).toInt8.toInt32)))))] H := hP
  have hD : va_D A [(h0, .inr (8, ((fs.set 51 (.int (nI (k + 1)))).set 51 (.int (nI (k + 2)))))), (qc, .inl (cc, 16384, .inl (upd (upd f (Int32.toNatClampNeg (nI k)) (vp_nar .byte ((x >>> (24 &&& 31)).toInt8.toInt32))) (Int32.toNatClampNeg (nI (k + 1))) (vp_nar .byte ((x >>> (16 &&& 31)).toInt8.toInt32)))))] := hD
  refine lv_iinc (v := 8) (lv' := [(2, .int 8), (0, .ref h0), (1, .int x)]) hx hb px_d41_30 hl (k := 0) rfl (by decide +kernel) (by decide) rfl (fun ls hl => ?_)
  refine lv_goto (tgt := 3) hx hb px_d41_33 (by decide) ?_
  refine lv_iload_n hx hb px_d41_3 rfl (lv_at hl 0 rfl) ?_
  refine lv_if_lt (tgt := 36) hx hb px_d41_4 (by decide) (fun h9 => absurd h9 (by decide +kernel)) (fun _ => ?_)
  refine lv_aload_n hx hb px_d41_7 rfl (lv_at hl 1 rfl) ?_
  refine va_get (D := (dC, dI)) (ci := 8) (v := .ref qc) (C := "MatroidDeskModel") (T := px_T8) (N := 53) hx hb htw px_in8 hown hK hP 0 rfl rfl 50 (by decide) (htw _ px_w288) (fun _ h9 => h9) ((px_sn (by decide)).trans ((px_sn (by decide)).trans hk_50)) px_d41_8 ?_
  refine lv_aload_n hx hb px_d41_11 rfl (lv_at hl 1 rfl) ?_
  refine va_get (D := (dC, dI)) (ci := 8) (v := .int (nI (k + 2))) (C := "MatroidDeskModel") (T := px_T8) (N := 53) hx hb htw px_in8 hown hK hP 0 rfl rfl 51 (by decide) (htw _ px_w398) (fun _ h9 => h9) (px_ss (px_sl hlen) (by decide)) px_d41_12 ?_
  refine lv_iload_n hx hb px_d41_15 rfl (lv_at hl 2 rfl) ?_
  refine lv_iload_n hx hb px_d41_16 rfl (lv_at hl 0 rfl) ?_
  refine lv_ishr hx hb px_d41_17 ?_
  refine lv_i2b (v := (x >>> (8 &&& 31)).toInt8.toInt32) hx hb px_d41_18 rfl ?_
  refine va_bast hx hb hK hP hD hS 1 0 rfl rfl (vp_in_nI (show k + 2 < 16384 by omega) (by decide)) px_d41_19 (fun H locs hP hD hS => ?_)
  have hP : va_P (dC, dI) vwCl [(h0, .inr (8, ((fs.set 51 (.int (nI (k + 1)))).set 51 (.int (nI (k + 2)))))), (qc, .inl (cc, 16384, .inl (upd (upd (upd f (Int32.toNatClampNeg (nI k)) (vp_nar .byte ((x >>> (24 &&& 31)).toInt8.toInt32))) (Int32.toNatClampNeg (nI (k + 1))) (vp_nar .byte ((x >>> (16 &&& 31)).toInt8.toInt32))) (Int32.toNatClampNeg (nI (k + 2))) (vp_nar .byte ((x >>> (8 &&& 31)).toInt8.toInt32)))))] H := hP
  have hD : va_D A [(h0, .inr (8, ((fs.set 51 (.int (nI (k + 1)))).set 51 (.int (nI (k + 2)))))), (qc, .inl (cc, 16384, .inl (upd (upd (upd f (Int32.toNatClampNeg (nI k)) (vp_nar .byte ((x >>> (24 &&& 31)).toInt8.toInt32))) (Int32.toNatClampNeg (nI (k + 1))) (vp_nar .byte ((x >>> (16 &&& 31)).toInt8.toInt32))) (Int32.toNatClampNeg (nI (k + 2))) (vp_nar .byte ((x >>> (8 &&& 31)).toInt8.toInt32)))))] := hD
  refine lv_aload_n hx hb px_d41_20 rfl (lv_at hl 1 rfl) ?_
  refine lv_dup hx hb px_d41_21 rfl ?_
  refine va_get (D := (dC, dI)) (ci := 8) (v := .int (nI (k + 2))) (C := "MatroidDeskModel") (T := px_T8) (N := 53) hx hb htw px_in8 hown hK hP 0 rfl rfl 51 (by decide) (htw _ px_w398) (fun _ h9 => h9) (px_ss (px_sl hlen) (by decide)) px_d41_22 ?_
  refine lv_iconst (v := 1) hx hb px_d41_25 (by decide) ?_
  refine lv_iadd hx hb px_d41_26 ?_
  refine lv_topi (nm_r (e' := (nI (k + 3))) (nI_1 (k + 2)) ?_)
  refine va_put (D := (dC, dI)) (ci := 8) (v := .int (nI (k + 3))) (ty := .int) (C := "MatroidDeskModel") (T := px_T8) (N := 53) hx hb htw px_in8 px_ty8 px_tyok8 px_nm8 hown hK hP hD hS 0 rfl rfl 51 (by decide) (htw _ px_w398) (fun _ h9 => h9) rfl (by decide +kernel) rfl rfl (by rw [(px_sl (px_sl hlen))]; decide) px_d41_27 (fun H locs hP hD hS => ?_)
  have hP : va_P (dC, dI) vwCl [(h0, .inr (8, (((fs.set 51 (.int (nI (k + 1)))).set 51 (.int (nI (k + 2)))).set 51 (.int (nI (k + 3)))))), (qc, .inl (cc, 16384, .inl (upd (upd (upd f (Int32.toNatClampNeg (nI k)) (vp_nar .byte ((x >>> (24 &&& 31)).toInt8.toInt32))) (Int32.toNatClampNeg (nI (k + 1))) (vp_nar .byte ((x >>> (16 &&& 31)).toInt8.toInt32))) (Int32.toNatClampNeg (nI (k + 2))) (vp_nar .byte ((x >>> (8 &&& 31)).toInt8.toInt32)))))] H := hP
  have hD : va_D A [(h0, .inr (8, (((fs.set 51 (.int (nI (k + 1)))).set 51 (.int (nI (k + 2)))).set 51 (.int (nI (k + 3)))))), (qc, .inl (cc, 16384, .inl (upd (upd (upd f (Int32.toNatClampNeg (nI k)) (vp_nar .byte ((x >>> (24 &&& 31)).toInt8.toInt32))) (Int32.toNatClampNeg (nI (k + 1))) (vp_nar .byte ((x >>> (16 &&& 31)).toInt8.toInt32))) (Int32.toNatClampNeg (nI (k + 2))) (vp_nar .byte ((x >>> (8 &&& 31)).toInt8.toInt32)))))] := hD
  refine lv_iinc (v := 0) (lv' := [(2, .int 0), (0, .ref h0), (1, .int x)]) hx hb px_d41_30 hl (k := 0) rfl (by decide +kernel) (by decide) rfl (fun ls hl => ?_)
  refine lv_goto (tgt := 3) hx hb px_d41_33 (by decide) ?_
  refine lv_iload_n hx hb px_d41_3 rfl (lv_at hl 0 rfl) ?_
  refine lv_if_lt (tgt := 36) hx hb px_d41_4 (by decide) (fun h9 => absurd h9 (by decide +kernel)) (fun _ => ?_)
  refine lv_aload_n hx hb px_d41_7 rfl (lv_at hl 1 rfl) ?_
  refine va_get (D := (dC, dI)) (ci := 8) (v := .ref qc) (C := "MatroidDeskModel") (T := px_T8) (N := 53) hx hb htw px_in8 hown hK hP 0 rfl rfl 50 (by decide) (htw _ px_w288) (fun _ h9 => h9) ((px_sn (by decide)).trans ((px_sn (by decide)).trans ((px_sn (by decide)).trans hk_50))) px_d41_8 ?_
  refine lv_aload_n hx hb px_d41_11 rfl (lv_at hl 1 rfl) ?_
  refine va_get (D := (dC, dI)) (ci := 8) (v := .int (nI (k + 3))) (C := "MatroidDeskModel") (T := px_T8) (N := 53) hx hb htw px_in8 hown hK hP 0 rfl rfl 51 (by decide) (htw _ px_w398) (fun _ h9 => h9) (px_ss (px_sl (px_sl hlen)) (by decide)) px_d41_12 ?_
  refine lv_iload_n hx hb px_d41_15 rfl (lv_at hl 2 rfl) ?_
  refine lv_iload_n hx hb px_d41_16 rfl (lv_at hl 0 rfl) ?_
  refine lv_ishr hx hb px_d41_17 ?_
  refine lv_i2b (v := (x >>> (0 &&& 31)).toInt8.toInt32) hx hb px_d41_18 rfl ?_
  refine va_bast hx hb hK hP hD hS 1 0 rfl rfl (vp_in_nI (show k + 3 < 16384 by omega) (by decide)) px_d41_19 (fun H locs hP hD hS => ?_)
  have hP : va_P (dC, dI) vwCl [(h0, .inr (8, (((fs.set 51 (.int (nI (k + 1)))).set 51 (.int (nI (k + 2)))).set 51 (.int (nI (k + 3)))))), (qc, .inl (cc, 16384, .inl (upd (upd (upd (upd f (Int32.toNatClampNeg (nI k)) (vp_nar .byte ((x >>> (24 &&& 31)).toInt8.toInt32))) (Int32.toNatClampNeg (nI (k + 1))) (vp_nar .byte ((x >>> (16 &&& 31)).toInt8.toInt32))) (Int32.toNatClampNeg (nI (k + 2))) (vp_nar .byte ((x >>> (8 &&& 31)).toInt8.toInt32))) (Int32.toNatClampNeg (nI (k + 3))) (vp_nar .byte ((x >>> (0 &&& 31)).toInt8.toInt32)))))] H := hP
  have hD : va_D A [(h0, .inr (8, (((fs.set 51 (.int (nI (k + 1)))).set 51 (.int (nI (k + 2)))).set 51 (.int (nI (k + 3)))))), (qc, .inl (cc, 16384, .inl (upd (upd (upd (upd f (Int32.toNatClampNeg (nI k)) (vp_nar .byte ((x >>> (24 &&& 31)).toInt8.toInt32))) (Int32.toNatClampNeg (nI (k + 1))) (vp_nar .byte ((x >>> (16 &&& 31)).toInt8.toInt32))) (Int32.toNatClampNeg (nI (k + 2))) (vp_nar .byte ((x >>> (8 &&& 31)).toInt8.toInt32))) (Int32.toNatClampNeg (nI (k + 3))) (vp_nar .byte ((x >>> (0 &&& 31)).toInt8.toInt32)))))] := hD
  refine lv_aload_n hx hb px_d41_20 rfl (lv_at hl 1 rfl) ?_
  refine lv_dup hx hb px_d41_21 rfl ?_
  refine va_get (D := (dC, dI)) (ci := 8) (v := .int (nI (k + 3))) (C := "MatroidDeskModel") (T := px_T8) (N := 53) hx hb htw px_in8 hown hK hP 0 rfl rfl 51 (by decide) (htw _ px_w398) (fun _ h9 => h9) (px_ss (px_sl (px_sl hlen)) (by decide)) px_d41_22 ?_
  refine lv_iconst (v := 1) hx hb px_d41_25 (by decide) ?_
  refine lv_iadd hx hb px_d41_26 ?_
  refine lv_topi (nm_r (e' := (nI (k + 4))) (nI_1 (k + 3)) ?_)
  refine va_put (D := (dC, dI)) (ci := 8) (v := .int (nI (k + 4))) (ty := .int) (C := "MatroidDeskModel") (T := px_T8) (N := 53) hx hb htw px_in8 px_ty8 px_tyok8 px_nm8 hown hK hP hD hS 0 rfl rfl 51 (by decide) (htw _ px_w398) (fun _ h9 => h9) rfl (by decide +kernel) rfl rfl (by rw [(px_sl (px_sl (px_sl hlen)))]; decide) px_d41_27 (fun H locs hP hD hS => ?_)
  have hP : va_P (dC, dI) vwCl [(h0, .inr (8, ((((fs.set 51 (.int (nI (k + 1)))).set 51 (.int (nI (k + 2)))).set 51 (.int (nI (k + 3)))).set 51 (.int (nI (k + 4)))))), (qc, .inl (cc, 16384, .inl (upd (upd (upd (upd f (Int32.toNatClampNeg (nI k)) (vp_nar .byte ((x >>> (24 &&& 31)).toInt8.toInt32))) (Int32.toNatClampNeg (nI (k + 1))) (vp_nar .byte ((x >>> (16 &&& 31)).toInt8.toInt32))) (Int32.toNatClampNeg (nI (k + 2))) (vp_nar .byte ((x >>> (8 &&& 31)).toInt8.toInt32))) (Int32.toNatClampNeg (nI (k + 3))) (vp_nar .byte ((x >>> (0 &&& 31)).toInt8.toInt32)))))] H := hP
  have hD : va_D A [(h0, .inr (8, ((((fs.set 51 (.int (nI (k + 1)))).set 51 (.int (nI (k + 2)))).set 51 (.int (nI (k + 3)))).set 51 (.int (nI (k + 4)))))), (qc, .inl (cc, 16384, .inl (upd (upd (upd (upd f (Int32.toNatClampNeg (nI k)) (vp_nar .byte ((x >>> (24 &&& 31)).toInt8.toInt32))) (Int32.toNatClampNeg (nI (k + 1))) (vp_nar .byte ((x >>> (16 &&& 31)).toInt8.toInt32))) (Int32.toNatClampNeg (nI (k + 2))) (vp_nar .byte ((x >>> (8 &&& 31)).toInt8.toInt32))) (Int32.toNatClampNeg (nI (k + 3))) (vp_nar .byte ((x >>> (0 &&& 31)).toInt8.toInt32)))))] := hD
  refine lv_iinc (v := (-8)) (lv' := [(2, .int (-8)), (0, .ref h0), (1, .int x)]) hx hb px_d41_30 hl (k := 0) rfl (by decide +kernel) (by decide) rfl (fun ls hl => ?_)
  refine lv_goto (tgt := 3) hx hb px_d41_33 (by decide) ?_
  refine lv_iload_n hx hb px_d41_3 rfl (lv_at hl 0 rfl) ?_
  refine lv_if_lt (tgt := 36) hx hb px_d41_4 (by decide) (fun _ => ?_) (fun h9 => absurd (by decide +kernel) h9)
  have hP9 := hP.sub (ws' := [(h0, .inr (8, ((((fs.set 51 (.int (nI (k + 1)))).set 51 (.int (nI (k + 2)))).set 51 (.int (nI (k + 3)))).set 51 (.int (nI (k + 4)))))), (qc, .inl (cc, 16384, .inl (upd (upd (upd (upd f (Int32.toNatClampNeg (nI k)) (vp_nar .byte ((x >>> (24 &&& 31)).toInt8.toInt32))) (Int32.toNatClampNeg (nI (k + 1))) (vp_nar .byte ((x >>> (16 &&& 31)).toInt8.toInt32))) (Int32.toNatClampNeg (nI (k + 2))) (vp_nar .byte ((x >>> (8 &&& 31)).toInt8.toInt32))) (Int32.toNatClampNeg (nI (k + 3))) (vp_nar .byte ((x >>> (0 &&& 31)).toInt8.toInt32)))))]) [0, 1] rfl
  have hD9 := hD.sub (ws' := [(h0, .inr (8, ((((fs.set 51 (.int (nI (k + 1)))).set 51 (.int (nI (k + 2)))).set 51 (.int (nI (k + 3)))).set 51 (.int (nI (k + 4)))))), (qc, .inl (cc, 16384, .inl (upd (upd (upd (upd f (Int32.toNatClampNeg (nI k)) (vp_nar .byte ((x >>> (24 &&& 31)).toInt8.toInt32))) (Int32.toNatClampNeg (nI (k + 1))) (vp_nar .byte ((x >>> (16 &&& 31)).toInt8.toInt32))) (Int32.toNatClampNeg (nI (k + 2))) (vp_nar .byte ((x >>> (8 &&& 31)).toInt8.toInt32))) (Int32.toNatClampNeg (nI (k + 3))) (vp_nar .byte ((x >>> (0 &&& 31)).toInt8.toInt32)))))]) [0, 1] (by decide) rfl
  have hK9 := hK.sub (tys' := [(cc, .byte)]) [0] rfl
  refine W.widen (k := 0) (n := 0) (Nat.le_of_ble_eq_true rfl) (Nat.le_of_ble_eq_true rfl) ?_
  exact W.vret hx hb hr (fun t ht hW => ⟨⟨(), rfl, trivial, (upd (upd (upd (upd f (Int32.toNatClampNeg (nI k)) (vp_nar .byte ((x >>> (24 &&& 31)).toInt8.toInt32))) (Int32.toNatClampNeg (nI (k + 1))) (vp_nar .byte ((x >>> (16 &&& 31)).toInt8.toInt32))) (Int32.toNatClampNeg (nI (k + 2))) (vp_nar .byte ((x >>> (8 &&& 31)).toInt8.toInt32))) (Int32.toNatClampNeg (nI (k + 3))) (vp_nar .byte ((x >>> (0 &&& 31)).toInt8.toInt32))), by rw [ht]; exact hP9, va_K.moved hW.alike hK9, hD9⟩, hS.F ht⟩) hS.2.2 px_d41_36
set_option maxHeartbeats 4000000 in
set_option maxRecDepth 100000 in
/-- feed -/
theorem px_M_feed (l : Launch) (dC : Nat → ClassId) (dI : Nat → Nat → Nat) (sz : Nat) (h0 : Nat) (fs : List Value) (qc : Nat) (cc : ClassId) (x1 : Int32) (x2 : Int32) (x3 : Int32) (x4 : Int32) (x5 : Int32) (hlen : fs.length = 53) (hk_50 : fs[50]? = some (.ref qc)) (hk_51 : fs[51]? = some (.int 0)) : Met l px_y42 px_s42 ({ frames := 1, cells := 0, slots := 0, locals := 22 }) (va_Pc [.ref h0, .int x1, .int x2, .int x3, .int x4, .int x5] (fun U => U.heap.size = sz ∧ va_P (dC, dI) vwCl [(h0, .inr (8, fs)), (qc, .inl (cc, 16384, .inl (fun _ => 0)))] U.heap ∧ va_K (dC, dI) vwCl [(cc, .byte)] U ∧ va_D (fun _ => True) [(h0, .inr (8, fs)), (qc, .inl (cc, 16384, .inl (fun _ => 0)))] ∧ px_N U)) (va_Qv (fun (_ : Unit) => True) (fun (_ : Unit) (t : State) => va_P (dC, dI) vwCl [(h0, .inr (8, (((((((((((((((((((((fs.set 49 (.int 0)).set 51 (.int (nI (0 + 1)))).set 51 (.int (nI (0 + 2)))).set 51 (.int (nI (0 + 3)))).set 51 (.int (nI (0 + 4)))).set 51 (.int (nI ((0 + 4) + 1)))).set 51 (.int (nI ((0 + 4) + 2)))).set 51 (.int (nI ((0 + 4) + 3)))).set 51 (.int (nI ((0 + 4) + 4)))).set 51 (.int (nI (((0 + 4) + 4) + 1)))).set 51 (.int (nI (((0 + 4) + 4) + 2)))).set 51 (.int (nI (((0 + 4) + 4) + 3)))).set 51 (.int (nI (((0 + 4) + 4) + 4)))).set 51 (.int (nI ((((0 + 4) + 4) + 4) + 1)))).set 51 (.int (nI ((((0 + 4) + 4) + 4) + 2)))).set 51 (.int (nI ((((0 + 4) + 4) + 4) + 3)))).set 51 (.int (nI ((((0 + 4) + 4) + 4) + 4)))).set 51 (.int (nI (((((0 + 4) + 4) + 4) + 4) + 1)))).set 51 (.int (nI (((((0 + 4) + 4) + 4) + 4) + 2)))).set 51 (.int (nI (((((0 + 4) + 4) + 4) + 4) + 3)))).set 51 (.int (nI (((((0 + 4) + 4) + 4) + 4) + 4))))))] t.heap ∧ va_K (dC, dI) vwCl [(cc, .byte)] t ∧ va_D (va_A [(h0, .inr (8, fs)), (qc, .inl (cc, 16384, .inl (fun _ => 0)))] sz) [(h0, .inr (8, (((((((((((((((((((((fs.set 49 (.int 0)).set 51 (.int (nI (0 + 1)))).set 51 (.int (nI (0 + 2)))).set 51 (.int (nI (0 + 3)))).set 51 (.int (nI (0 + 4)))).set 51 (.int (nI ((0 + 4) + 1)))).set 51 (.int (nI ((0 + 4) + 2)))).set 51 (.int (nI ((0 + 4) + 3)))).set 51 (.int (nI ((0 + 4) + 4)))).set 51 (.int (nI (((0 + 4) + 4) + 1)))).set 51 (.int (nI (((0 + 4) + 4) + 2)))).set 51 (.int (nI (((0 + 4) + 4) + 3)))).set 51 (.int (nI (((0 + 4) + 4) + 4)))).set 51 (.int (nI ((((0 + 4) + 4) + 4) + 1)))).set 51 (.int (nI ((((0 + 4) + 4) + 4) + 2)))).set 51 (.int (nI ((((0 + 4) + 4) + 4) + 3)))).set 51 (.int (nI ((((0 + 4) + 4) + 4) + 4)))).set 51 (.int (nI (((((0 + 4) + 4) + 4) + 4) + 1)))).set 51 (.int (nI (((((0 + 4) + 4) + 4) + 4) + 2)))).set 51 (.int (nI (((((0 + 4) + 4) + 4) + 4) + 3)))).set 51 (.int (nI (((((0 + 4) + 4) + 4) + 4) + 4))))))]) (va_A [(h0, .inr (8, fs)), (qc, .inl (cc, 16384, .inl (fun _ => 0)))] sz)) 0 0 (va_A [(h0, .inr (8, fs)), (qc, .inl (cc, 16384, .inl (fun _ => 0)))] sz) := by
  refine Met.ofW (cc := prog_15_method_90_code) (maxL := 6) (ret := none) (by decide) rfl ?_
  intro p e s m args below meth c s₁ B hml hv
  obtain ⟨rfl, hsz, hP, hK, hD0, hN⟩ := hv
  have hx := B.exec
  have hb := B.bytes
  have hr := B.returns
  have htw : ∀ w ∈ px_all, w.before _ s = true := fun w h => atoms_spec (ws := px_s42) B.pre w (List.mem_cons_of_mem _ h)
  have hown : s.vm.findClass "MatroidDeskModel" = some m.cls := findClass_of_methodNamed B.named
  have hlocks := B.notSynchronized
  subst hsz
  have hD := hD0.self (sz := s.heap.size)
  generalize hAe : va_A [(h0, .inr (8, fs)), (qc, .inl (cc, 16384, .inl (fun _ => 0)))] s.heap.size = A at hD ⊢
  have hA : ∀ q : Nat, s.heap.size ≤ q → A q := fun q h => by rw [← hAe]; exact Or.inr h
  have hS : va_S A s.heap s.heap [] := va_S.rf
  have hP : va_P (dC, dI) vwCl [(h0, .inr (8, fs)), (qc, .inl (cc, 16384, .inl (fun _ => 0)))] s.heap := hP
  have hl := lv_entry ([.ref h0, .int x1, .int x2, .int x3, .int x4, .int x5]) (n := 6) (Nat.le_of_ble_eq_true rfl)
  rw [lg_entry_eq]
  generalize (lg_sl ([.ref h0, .int x1, .int x2, .int x3, .int x4, .int x5]) ++ List.replicate (6 - (lg_sl ([.ref h0, .int x1, .int x2, .int x3, .int x4, .int x5])).length) Slot.unset).toArray = ls at hl ⊢
  have hl : lv_has ls 6 [(0, .ref h0), (1, .int x1), (2, .int x2), (3, .int x3), (4, .int x4), (5, .int x5)] := hl
  refine lv_aload_n hx hb px_d42_0 rfl (lv_at hl 0 rfl) ?_
  refine lv_aload_n hx hb px_d42_1 rfl (lv_at hl 0 rfl) ?_
  refine va_get (D := (dC, dI)) (ci := 8) (v := .int 0) (C := "MatroidDeskModel") (T := px_T8) (N := 53) hx hb htw px_in8 hown hK hP 0 rfl rfl 51 (by decide) (htw _ px_w398) (fun _ h9 => h9) hk_51 px_d42_2 ?_
  refine lv_bipush (v := 20) hx hb px_d42_5 (by decide) ?_
  refine lv_iadd hx hb px_d42_7 ?_
  refine lv_topi (nm_r (e' := (20 : Int32)) (by decide +kernel) ?_)
  refine lv_sipush (v := 16384) hx hb px_d42_8 (by decide) ?_
  refine lv_icmp_le (tgt := 18) hx hb px_d42_11 (by decide) (fun _ => ?_) (fun h9 => absurd (by decide +kernel) h9)
  refine lv_iconst (v := 0) hx hb px_d42_18 (by decide) ?_
  refine va_put (D := (dC, dI)) (ci := 8) (v := .int 0) (ty := .int) (C := "MatroidDeskModel") (T := px_T8) (N := 53) hx hb htw px_in8 px_ty8 px_tyok8 px_nm8 hown hK hP hD hS 0 rfl rfl 49 (by decide) (htw _ px_w402) (fun _ h9 => h9) rfl (by decide +kernel) rfl rfl (by rw [hlen]; decide) px_d42_19 (fun H locs hP hD hS => ?_)
  have hP : va_P (dC, dI) vwCl [(h0, .inr (8, (fs.set 49 (.int 0)))), (qc, .inl (cc, 16384, .inl (fun _ => 0)))] H := hP
  have hD : va_D A [(h0, .inr (8, (fs.set 49 (.int 0)))), (qc, .inl (cc, 16384, .inl (fun _ => 0)))] := hD
  refine lv_aload_n hx hb px_d42_22 rfl (lv_at hl 0 rfl) ?_
  refine va_get (D := (dC, dI)) (ci := 8) (v := .int 0) (C := "MatroidDeskModel") (T := px_T8) (N := 53) hx hb htw px_in8 hown hK hP 0 rfl rfl 49 (by decide) (htw _ px_w402) (fun _ h9 => h9) (px_ss hlen (by decide)) px_d42_23 ?_
  refine lv_if_ne (tgt := 56) hx hb px_d42_26 (by decide) (fun h9 => absurd (by decide +kernel) h9) (fun _ => ?_)
  refine lv_aload_n hx hb px_d42_29 rfl (lv_at hl 0 rfl) ?_
  refine lv_iload_n hx hb px_d42_30 rfl (lv_at hl 1 rfl) ?_
  have hPc := hP.sub (ws' := [(h0, .inr (8, (fs.set 49 (.int 0)))), (qc, .inl (cc, 16384, .inl (fun _ => 0)))]) [0, 1] rfl
  have hDc := hD.sub (ws' := [(h0, .inr (8, (fs.set 49 (.int 0)))), (qc, .inl (cc, 16384, .inl (fun _ => 0)))]) [0, 1] (by decide) rfl
  have hKc := hK.sub (tys' := [(cc, .byte)]) [0] rfl
  have hFc := va_free (wc := [(h0, .inr (8, (fs.set 49 (.int 0)))), (qc, .inl (cc, 16384, .inl (fun _ => 0)))]) hD hS hA [0, 1] rfl
  refine va_callv (va_runV (As := [.int x1]) (rest := []) ⟨hx, hb, hml, hown, htw⟩ (px_M_take l dC dI H.size h0 (fs.set 49 (.int 0)) qc cc 0 (fun _ => 0) x1 (px_sl hlen) ((px_sn (by decide)).trans hk_50) ((px_sn (by decide)).trans hk_51) (by decide)) (cwV 1 htw (px_gv px_w403 px_w396 px_w397 px_w94 px_g41) rfl rfl rfl (by decide +kernel) ⟨Nat.le_of_ble_eq_true rfl, Nat.le_of_ble_eq_true rfl⟩) ⟨fun a U g mk q => by obtain ⟨q0, q1, qP, qK, qD, qN⟩ := q; exact ⟨q0, q1, qP, va_K.moved (u := U) (U := U.calling g mk a) (Vm.Alike.refl U.vm) qK, qD, qN.same rfl⟩, va_recv hK hP (ci := 8) (q0 := 0) rfl rfl, fun U hU hW => ⟨rfl, by rw [hU], by rw [hU]; exact hPc, va_K.moved hW.alike hKc, hDc.weaken (fun _ _ _ _ => trivial), hN.warm hW⟩⟩ rfl rfl hl.1 rfl (lv_room (Nat.le_of_ble_eq_true rfl)) px_d42_31 ⟨(Nat.le_of_ble_eq_true rfl), (Nat.le_of_ble_eq_true rfl)⟩) hS (fun q _ h => hFc q h) hFc (fun u t H1 locs ht hvm hw_31 hB hz1 hk1 hS => ?_)
  obtain ⟨f1, hP1, hK1, hD1⟩ := hB
  rw [ht] at hP1
  have hK1 := va_K.moved hvm.symm hK1
  obtain ⟨hP, hD⟩ := va_join (wr := []) (w1 := [(h0, .inr (8, (((((fs.set 49 (.int 0)).set 51 (.int (nI (0 + 1)))).set 51 (.int (nI (0 + 2)))).set 51 (.int (nI (0 + 3)))).set 51 (.int (nI (0 + 4)))))), (qc, .inl (cc, 16384, .inl f1))]) hP hD [0, 1] [] rfl rfl (by decide) (by decide) hk1 hFc hP1 hD1
  generalize H1 = H at hP hS ⊢
  have hP : va_P (dC, dI) vwCl [(h0, .inr (8, (((((fs.set 49 (.int 0)).set 51 (.int (nI (0 + 1)))).set 51 (.int (nI (0 + 2)))).set 51 (.int (nI (0 + 3)))).set 51 (.int (nI (0 + 4)))))), (qc, .inl (cc, 16384, .inl f1))] H := hP
  have hD : va_D A [(h0, .inr (8, (((((fs.set 49 (.int 0)).set 51 (.int (nI (0 + 1)))).set 51 (.int (nI (0 + 2)))).set 51 (.int (nI (0 + 3)))).set 51 (.int (nI (0 + 4)))))), (qc, .inl (cc, 16384, .inl f1))] := hD
  refine lv_aload_n hx hb px_d42_34 rfl (lv_at hl 0 rfl) ?_
  refine lv_iload_n hx hb px_d42_35 rfl (lv_at hl 2 rfl) ?_
  have hPc := hP.sub (ws' := [(h0, .inr (8, (((((fs.set 49 (.int 0)).set 51 (.int (nI (0 + 1)))).set 51 (.int (nI (0 + 2)))).set 51 (.int (nI (0 + 3)))).set 51 (.int (nI (0 + 4)))))), (qc, .inl (cc, 16384, .inl f1))]) [0, 1] rfl
  have hDc := hD.sub (ws' := [(h0, .inr (8, (((((fs.set 49 (.int 0)).set 51 (.int (nI (0 + 1)))).set 51 (.int (nI (0 + 2)))).set 51 (.int (nI (0 + 3)))).set 51 (.int (nI (0 + 4)))))), (qc, .inl (cc, 16384, .inl f1))]) [0, 1] (by decide) rfl
  have hKc := hK.sub (tys' := [(cc, .byte)]) [0] rfl
  have hFc := va_free (wc := [(h0, .inr (8, (((((fs.set 49 (.int 0)).set 51 (.int (nI (0 + 1)))).set 51 (.int (nI (0 + 2)))).set 51 (.int (nI (0 + 3)))).set 51 (.int (nI (0 + 4)))))), (qc, .inl (cc, 16384, .inl f1))]) hD hS hA [0, 1] rfl
  refine va_callv (va_runV (As := [.int x2]) (rest := []) ⟨hx, hb, hml, hown, htw⟩ (px_M_take l dC dI H.size h0 (((((fs.set 49 (.int 0)).set 51 (.int (nI (0 + 1)))).set 51 (.int (nI (0 + 2)))).set 51 (.int (nI (0 + 3)))).set 51 (.int (nI (0 + 4)))) qc cc (0 + 4) f1 x2 (px_sl (px_sl (px_sl (px_sl (px_sl hlen))))) ((px_sn (by decide)).trans ((px_sn (by decide)).trans ((px_sn (by decide)).trans ((px_sn (by decide)).trans ((px_sn (by decide)).trans hk_50))))) (px_ss (px_sl (px_sl (px_sl (px_sl hlen)))) (by decide)) (by decide)) (cwV 1 htw (px_gv px_w403 px_w396 px_w397 px_w94 px_g41) rfl rfl rfl (by decide +kernel) ⟨Nat.le_of_ble_eq_true rfl, Nat.le_of_ble_eq_true rfl⟩) ⟨fun a U g mk q => by obtain ⟨q0, q1, qP, qK, qD, qN⟩ := q; exact ⟨q0, q1, qP, va_K.moved (u := U) (U := U.calling g mk a) (Vm.Alike.refl U.vm) qK, qD, qN.same rfl⟩, va_recv hK hP (ci := 8) (q0 := 0) rfl rfl, fun U hU hW => ⟨rfl, by rw [hU], by rw [hU]; exact hPc, va_K.moved hW.alike hKc, hDc.weaken (fun _ _ _ _ => trivial), hN.warm hW⟩⟩ rfl rfl hl.1 rfl (lv_room (Nat.le_of_ble_eq_true rfl)) px_d42_36 ⟨(Nat.le_of_ble_eq_true rfl), (Nat.le_of_ble_eq_true rfl)⟩) hS (fun q _ h => hFc q h) hFc (fun u t H1 locs ht hvm hw_36 hB hz1 hk1 hS => ?_)
  obtain ⟨f1_1, hP1, hK1, hD1⟩ := hB
  rw [ht] at hP1
  have hK1 := va_K.moved hvm.symm hK1
  obtain ⟨hP, hD⟩ := va_join (wr := []) (w1 := [(h0, .inr (8, (((((((((fs.set 49 (.int 0)).set 51 (.int (nI (0 + 1)))).set 51 (.int (nI (0 + 2)))).set 51 (.int (nI (0 + 3)))).set 51 (.int (nI (0 + 4)))).set 51 (.int (nI ((0 + 4) + 1)))).set 51 (.int (nI ((0 + 4) + 2)))).set 51 (.int (nI ((0 + 4) + 3)))).set 51 (.int (nI ((0 + 4) + 4)))))), (qc, .inl (cc, 16384, .inl f1_1))]) hP hD [0, 1] [] rfl rfl (by decide) (by decide) hk1 hFc hP1 hD1
  generalize H1 = H at hP hS ⊢
  have hP : va_P (dC, dI) vwCl [(h0, .inr (8, (((((((((fs.set 49 (.int 0)).set 51 (.int (nI (0 + 1)))).set 51 (.int (nI (0 + 2)))).set 51 (.int (nI (0 + 3)))).set 51 (.int (nI (0 + 4)))).set 51 (.int (nI ((0 + 4) + 1)))).set 51 (.int (nI ((0 + 4) + 2)))).set 51 (.int (nI ((0 + 4) + 3)))).set 51 (.int (nI ((0 + 4) + 4)))))), (qc, .inl (cc, 16384, .inl f1_1))] H := hP
  have hD : va_D A [(h0, .inr (8, (((((((((fs.set 49 (.int 0)).set 51 (.int (nI (0 + 1)))).set 51 (.int (nI (0 + 2)))).set 51 (.int (nI (0 + 3)))).set 51 (.int (nI (0 + 4)))).set 51 (.int (nI ((0 + 4) + 1)))).set 51 (.int (nI ((0 + 4) + 2)))).set 51 (.int (nI ((0 + 4) + 3)))).set 51 (.int (nI ((0 + 4) + 4)))))), (qc, .inl (cc, 16384, .inl f1_1))] := hD
  refine lv_aload_n hx hb px_d42_39 rfl (lv_at hl 0 rfl) ?_
  refine lv_iload_n hx hb px_d42_40 rfl (lv_at hl 3 rfl) ?_
  have hPc := hP.sub (ws' := [(h0, .inr (8, (((((((((fs.set 49 (.int 0)).set 51 (.int (nI (0 + 1)))).set 51 (.int (nI (0 + 2)))).set 51 (.int (nI (0 + 3)))).set 51 (.int (nI (0 + 4)))).set 51 (.int (nI ((0 + 4) + 1)))).set 51 (.int (nI ((0 + 4) + 2)))).set 51 (.int (nI ((0 + 4) + 3)))).set 51 (.int (nI ((0 + 4) + 4)))))), (qc, .inl (cc, 16384, .inl f1_1))]) [0, 1] rfl
  have hDc := hD.sub (ws' := [(h0, .inr (8, (((((((((fs.set 49 (.int 0)).set 51 (.int (nI (0 + 1)))).set 51 (.int (nI (0 + 2)))).set 51 (.int (nI (0 + 3)))).set 51 (.int (nI (0 + 4)))).set 51 (.int (nI ((0 + 4) + 1)))).set 51 (.int (nI ((0 + 4) + 2)))).set 51 (.int (nI ((0 + 4) + 3)))).set 51 (.int (nI ((0 + 4) + 4)))))), (qc, .inl (cc, 16384, .inl f1_1))]) [0, 1] (by decide) rfl
  have hKc := hK.sub (tys' := [(cc, .byte)]) [0] rfl
  have hFc := va_free (wc := [(h0, .inr (8, (((((((((fs.set 49 (.int 0)).set 51 (.int (nI (0 + 1)))).set 51 (.int (nI (0 + 2)))).set 51 (.int (nI (0 + 3)))).set 51 (.int (nI (0 + 4)))).set 51 (.int (nI ((0 + 4) + 1)))).set 51 (.int (nI ((0 + 4) + 2)))).set 51 (.int (nI ((0 + 4) + 3)))).set 51 (.int (nI ((0 + 4) + 4)))))), (qc, .inl (cc, 16384, .inl f1_1))]) hD hS hA [0, 1] rfl
  refine va_callv (va_runV (As := [.int x3]) (rest := []) ⟨hx, hb, hml, hown, htw⟩ (px_M_take l dC dI H.size h0 (((((((((fs.set 49 (.int 0)).set 51 (.int (nI (0 + 1)))).set 51 (.int (nI (0 + 2)))).set 51 (.int (nI (0 + 3)))).set 51 (.int (nI (0 + 4)))).set 51 (.int (nI ((0 + 4) + 1)))).set 51 (.int (nI ((0 + 4) + 2)))).set 51 (.int (nI ((0 + 4) + 3)))).set 51 (.int (nI ((0 + 4) + 4)))) qc cc ((0 + 4) + 4) f1_1 x3 (px_sl (px_sl (px_sl (px_sl (px_sl (px_sl (px_sl (px_sl (px_sl hlen))))))))) ((px_sn (by decide)).trans ((px_sn (by decide)).trans ((px_sn (by decide)).trans ((px_sn (by decide)).trans ((px_sn (by decide)).trans ((px_sn (by decide)).trans ((px_sn (by decide)).trans ((px_sn (by decide)).trans ((px_sn (by decide)).trans hk_50))))))))) (px_ss (px_sl (px_sl (px_sl (px_sl (px_sl (px_sl (px_sl (px_sl hlen)))))))) (by decide)) (by decide)) (cwV 1 htw (px_gv px_w403 px_w396 px_w397 px_w94 px_g41) rfl rfl rfl (by decide +kernel) ⟨Nat.le_of_ble_eq_true rfl, Nat.le_of_ble_eq_true rfl⟩) ⟨fun a U g mk q => by obtain ⟨q0, q1, qP, qK, qD, qN⟩ := q; exact ⟨q0, q1, qP, va_K.moved (u := U) (U := U.calling g mk a) (Vm.Alike.refl U.vm) qK, qD, qN.same rfl⟩, va_recv hK hP (ci := 8) (q0 := 0) rfl rfl, fun U hU hW => ⟨rfl, by rw [hU], by rw [hU]; exact hPc, va_K.moved hW.alike hKc, hDc.weaken (fun _ _ _ _ => trivial), hN.warm hW⟩⟩ rfl rfl hl.1 rfl (lv_room (Nat.le_of_ble_eq_true rfl)) px_d42_41 ⟨(Nat.le_of_ble_eq_true rfl), (Nat.le_of_ble_eq_true rfl)⟩) hS (fun q _ h => hFc q h) hFc (fun u t H1 locs ht hvm hw_41 hB hz1 hk1 hS => ?_)
  obtain ⟨f1_2, hP1, hK1, hD1⟩ := hB
  rw [ht] at hP1
  have hK1 := va_K.moved hvm.symm hK1
  obtain ⟨hP, hD⟩ := va_join (wr := []) (w1 := [(h0, .inr (8, (((((((((((((fs.set 49 (.int 0)).set 51 (.int (nI (0 + 1)))).set 51 (.int (nI (0 + 2)))).set 51 (.int (nI (0 + 3)))).set 51 (.int (nI (0 + 4)))).set 51 (.int (nI ((0 + 4) + 1)))).set 51 (.int (nI ((0 + 4) + 2)))).set 51 (.int (nI ((0 + 4) + 3)))).set 51 (.int (nI ((0 + 4) + 4)))).set 51 (.int (nI (((0 + 4) + 4) + 1)))).set 51 (.int (nI (((0 + 4) + 4) + 2)))).set 51 (.int (nI (((0 + 4) + 4) + 3)))).set 51 (.int (nI (((0 + 4) + 4) + 4)))))), (qc, .inl (cc, 16384, .inl f1_2))]) hP hD [0, 1] [] rfl rfl (by decide) (by decide) hk1 hFc hP1 hD1
  generalize H1 = H at hP hS ⊢
  have hP : va_P (dC, dI) vwCl [(h0, .inr (8, (((((((((((((fs.set 49 (.int 0)).set 51 (.int (nI (0 + 1)))).set 51 (.int (nI (0 + 2)))).set 51 (.int (nI (0 + 3)))).set 51 (.int (nI (0 + 4)))).set 51 (.int (nI ((0 + 4) + 1)))).set 51 (.int (nI ((0 + 4) + 2)))).set 51 (.int (nI ((0 + 4) + 3)))).set 51 (.int (nI ((0 + 4) + 4)))).set 51 (.int (nI (((0 + 4) + 4) + 1)))).set 51 (.int (nI (((0 + 4) + 4) + 2)))).set 51 (.int (nI (((0 + 4) + 4) + 3)))).set 51 (.int (nI (((0 + 4) + 4) + 4)))))), (qc, .inl (cc, 16384, .inl f1_2))] H := hP
  have hD : va_D A [(h0, .inr (8, (((((((((((((fs.set 49 (.int 0)).set 51 (.int (nI (0 + 1)))).set 51 (.int (nI (0 + 2)))).set 51 (.int (nI (0 + 3)))).set 51 (.int (nI (0 + 4)))).set 51 (.int (nI ((0 + 4) + 1)))).set 51 (.int (nI ((0 + 4) + 2)))).set 51 (.int (nI ((0 + 4) + 3)))).set 51 (.int (nI ((0 + 4) + 4)))).set 51 (.int (nI (((0 + 4) + 4) + 1)))).set 51 (.int (nI (((0 + 4) + 4) + 2)))).set 51 (.int (nI (((0 + 4) + 4) + 3)))).set 51 (.int (nI (((0 + 4) + 4) + 4)))))), (qc, .inl (cc, 16384, .inl f1_2))] := hD
  refine lv_aload_n hx hb px_d42_44 rfl (lv_at hl 0 rfl) ?_
  refine lv_iload hx hb px_d42_45 (lv_at hl 4 rfl) ?_
  have hPc := hP.sub (ws' := [(h0, .inr (8, (((((((((((((fs.set 49 (.int 0)).set 51 (.int (nI (0 + 1)))).set 51 (.int (nI (0 + 2)))).set 51 (.int (nI (0 + 3)))).set 51 (.int (nI (0 + 4)))).set 51 (.int (nI ((0 + 4) + 1)))).set 51 (.int (nI ((0 + 4) + 2)))).set 51 (.int (nI ((0 + 4) + 3)))).set 51 (.int (nI ((0 + 4) + 4)))).set 51 (.int (nI (((0 + 4) + 4) + 1)))).set 51 (.int (nI (((0 + 4) + 4) + 2)))).set 51 (.int (nI (((0 + 4) + 4) + 3)))).set 51 (.int (nI (((0 + 4) + 4) + 4)))))), (qc, .inl (cc, 16384, .inl f1_2))]) [0, 1] rfl
  have hDc := hD.sub (ws' := [(h0, .inr (8, (((((((((((((fs.set 49 (.int 0)).set 51 (.int (nI (0 + 1)))).set 51 (.int (nI (0 + 2)))).set 51 (.int (nI (0 + 3)))).set 51 (.int (nI (0 + 4)))).set 51 (.int (nI ((0 + 4) + 1)))).set 51 (.int (nI ((0 + 4) + 2)))).set 51 (.int (nI ((0 + 4) + 3)))).set 51 (.int (nI ((0 + 4) + 4)))).set 51 (.int (nI (((0 + 4) + 4) + 1)))).set 51 (.int (nI (((0 + 4) + 4) + 2)))).set 51 (.int (nI (((0 + 4) + 4) + 3)))).set 51 (.int (nI (((0 + 4) + 4) + 4)))))), (qc, .inl (cc, 16384, .inl f1_2))]) [0, 1] (by decide) rfl
  have hKc := hK.sub (tys' := [(cc, .byte)]) [0] rfl
  have hFc := va_free (wc := [(h0, .inr (8, (((((((((((((fs.set 49 (.int 0)).set 51 (.int (nI (0 + 1)))).set 51 (.int (nI (0 + 2)))).set 51 (.int (nI (0 + 3)))).set 51 (.int (nI (0 + 4)))).set 51 (.int (nI ((0 + 4) + 1)))).set 51 (.int (nI ((0 + 4) + 2)))).set 51 (.int (nI ((0 + 4) + 3)))).set 51 (.int (nI ((0 + 4) + 4)))).set 51 (.int (nI (((0 + 4) + 4) + 1)))).set 51 (.int (nI (((0 + 4) + 4) + 2)))).set 51 (.int (nI (((0 + 4) + 4) + 3)))).set 51 (.int (nI (((0 + 4) + 4) + 4)))))), (qc, .inl (cc, 16384, .inl f1_2))]) hD hS hA [0, 1] rfl
  refine va_callv (va_runV (As := [.int x4]) (rest := []) ⟨hx, hb, hml, hown, htw⟩ (px_M_take l dC dI H.size h0 (((((((((((((fs.set 49 (.int 0)).set 51 (.int (nI (0 + 1)))).set 51 (.int (nI (0 + 2)))).set 51 (.int (nI (0 + 3)))).set 51 (.int (nI (0 + 4)))).set 51 (.int (nI ((0 + 4) + 1)))).set 51 (.int (nI ((0 + 4) + 2)))).set 51 (.int (nI ((0 + 4) + 3)))).set 51 (.int (nI ((0 + 4) + 4)))).set 51 (.int (nI (((0 + 4) + 4) + 1)))).set 51 (.int (nI (((0 + 4) + 4) + 2)))).set 51 (.int (nI (((0 + 4) + 4) + 3)))).set 51 (.int (nI (((0 + 4) + 4) + 4)))) qc cc (((0 + 4) + 4) + 4) f1_2 x4 (px_sl (px_sl (px_sl (px_sl (px_sl (px_sl (px_sl (px_sl (px_sl (px_sl (px_sl (px_sl (px_sl hlen))))))))))))) ((px_sn (by decide)).trans ((px_sn (by decide)).trans ((px_sn (by decide)).trans ((px_sn (by decide)).trans ((px_sn (by decide)).trans ((px_sn (by decide)).trans ((px_sn (by decide)).trans ((px_sn (by decide)).trans ((px_sn (by decide)).trans ((px_sn (by decide)).trans ((px_sn (by decide)).trans ((px_sn (by decide)).trans ((px_sn (by decide)).trans hk_50))))))))))))) (px_ss (px_sl (px_sl (px_sl (px_sl (px_sl (px_sl (px_sl (px_sl (px_sl (px_sl (px_sl (px_sl hlen)))))))))))) (by decide)) (by decide)) (cwV 1 htw (px_gv px_w403 px_w396 px_w397 px_w94 px_g41) rfl rfl rfl (by decide +kernel) ⟨Nat.le_of_ble_eq_true rfl, Nat.le_of_ble_eq_true rfl⟩) ⟨fun a U g mk q => by obtain ⟨q0, q1, qP, qK, qD, qN⟩ := q; exact ⟨q0, q1, qP, va_K.moved (u := U) (U := U.calling g mk a) (Vm.Alike.refl U.vm) qK, qD, qN.same rfl⟩, va_recv hK hP (ci := 8) (q0 := 0) rfl rfl, fun U hU hW => ⟨rfl, by rw [hU], by rw [hU]; exact hPc, va_K.moved hW.alike hKc, hDc.weaken (fun _ _ _ _ => trivial), hN.warm hW⟩⟩ rfl rfl hl.1 rfl (lv_room (Nat.le_of_ble_eq_true rfl)) px_d42_47 ⟨(Nat.le_of_ble_eq_true rfl), (Nat.le_of_ble_eq_true rfl)⟩) hS (fun q _ h => hFc q h) hFc (fun u t H1 locs ht hvm hw_47 hB hz1 hk1 hS => ?_)
  obtain ⟨f1_3, hP1, hK1, hD1⟩ := hB
  rw [ht] at hP1
  have hK1 := va_K.moved hvm.symm hK1
  obtain ⟨hP, hD⟩ := va_join (wr := []) (w1 := [(h0, .inr (8, (((((((((((((((((fs.set 49 (.int 0)).set 51 (.int (nI (0 + 1)))).set 51 (.int (nI (0 + 2)))).set 51 (.int (nI (0 + 3)))).set 51 (.int (nI (0 + 4)))).set 51 (.int (nI ((0 + 4) + 1)))).set 51 (.int (nI ((0 + 4) + 2)))).set 51 (.int (nI ((0 + 4) + 3)))).set 51 (.int (nI ((0 + 4) + 4)))).set 51 (.int (nI (((0 + 4) + 4) + 1)))).set 51 (.int (nI (((0 + 4) + 4) + 2)))).set 51 (.int (nI (((0 + 4) + 4) + 3)))).set 51 (.int (nI (((0 + 4) + 4) + 4)))).set 51 (.int (nI ((((0 + 4) + 4) + 4) + 1)))).set 51 (.int (nI ((((0 + 4) + 4) + 4) + 2)))).set 51 (.int (nI ((((0 + 4) + 4) + 4) + 3)))).set 51 (.int (nI ((((0 + 4) + 4) + 4) + 4)))))), (qc, .inl (cc, 16384, .inl f1_3))]) hP hD [0, 1] [] rfl rfl (by decide) (by decide) hk1 hFc hP1 hD1
  generalize H1 = H at hP hS ⊢
  have hP : va_P (dC, dI) vwCl [(h0, .inr (8, (((((((((((((((((fs.set 49 (.int 0)).set 51 (.int (nI (0 + 1)))).set 51 (.int (nI (0 + 2)))).set 51 (.int (nI (0 + 3)))).set 51 (.int (nI (0 + 4)))).set 51 (.int (nI ((0 + 4) + 1)))).set 51 (.int (nI ((0 + 4) + 2)))).set 51 (.int (nI ((0 + 4) + 3)))).set 51 (.int (nI ((0 + 4) + 4)))).set 51 (.int (nI (((0 + 4) + 4) + 1)))).set 51 (.int (nI (((0 + 4) + 4) + 2)))).set 51 (.int (nI (((0 + 4) + 4) + 3)))).set 51 (.int (nI (((0 + 4) + 4) + 4)))).set 51 (.int (nI ((((0 + 4) + 4) + 4) + 1)))).set 51 (.int (nI ((((0 + 4) + 4) + 4) + 2)))).set 51 (.int (nI ((((0 + 4) + 4) + 4) + 3)))).set 51 (.int (nI ((((0 + 4) + 4) + 4) + 4)))))), (qc, .inl (cc, 16384, .inl f1_3))] H := hP
  have hD : va_D A [(h0, .inr (8, (((((((((((((((((fs.set 49 (.int 0)).set 51 (.int (nI (0 + 1)))).set 51 (.int (nI (0 + 2)))).set 51 (.int (nI (0 + 3)))).set 51 (.int (nI (0 + 4)))).set 51 (.int (nI ((0 + 4) + 1)))).set 51 (.int (nI ((0 + 4) + 2)))).set 51 (.int (nI ((0 + 4) + 3)))).set 51 (.int (nI ((0 + 4) + 4)))).set 51 (.int (nI (((0 + 4) + 4) + 1)))).set 51 (.int (nI (((0 + 4) + 4) + 2)))).set 51 (.int (nI (((0 + 4) + 4) + 3)))).set 51 (.int (nI (((0 + 4) + 4) + 4)))).set 51 (.int (nI ((((0 + 4) + 4) + 4) + 1)))).set 51 (.int (nI ((((0 + 4) + 4) + 4) + 2)))).set 51 (.int (nI ((((0 + 4) + 4) + 4) + 3)))).set 51 (.int (nI ((((0 + 4) + 4) + 4) + 4)))))), (qc, .inl (cc, 16384, .inl f1_3))] := hD
  refine lv_aload_n hx hb px_d42_50 rfl (lv_at hl 0 rfl) ?_
  refine lv_iload hx hb px_d42_51 (lv_at hl 5 rfl) ?_
  have hPc := hP.sub (ws' := [(h0, .inr (8, (((((((((((((((((fs.set 49 (.int 0)).set 51 (.int (nI (0 + 1)))).set 51 (.int (nI (0 + 2)))).set 51 (.int (nI (0 + 3)))).set 51 (.int (nI (0 + 4)))).set 51 (.int (nI ((0 + 4) + 1)))).set 51 (.int (nI ((0 + 4) + 2)))).set 51 (.int (nI ((0 + 4) + 3)))).set 51 (.int (nI ((0 + 4) + 4)))).set 51 (.int (nI (((0 + 4) + 4) + 1)))).set 51 (.int (nI (((0 + 4) + 4) + 2)))).set 51 (.int (nI (((0 + 4) + 4) + 3)))).set 51 (.int (nI (((0 + 4) + 4) + 4)))).set 51 (.int (nI ((((0 + 4) + 4) + 4) + 1)))).set 51 (.int (nI ((((0 + 4) + 4) + 4) + 2)))).set 51 (.int (nI ((((0 + 4) + 4) + 4) + 3)))).set 51 (.int (nI ((((0 + 4) + 4) + 4) + 4)))))), (qc, .inl (cc, 16384, .inl f1_3))]) [0, 1] rfl
  have hDc := hD.sub (ws' := [(h0, .inr (8, (((((((((((((((((fs.set 49 (.int 0)).set 51 (.int (nI (0 + 1)))).set 51 (.int (nI (0 + 2)))).set 51 (.int (nI (0 + 3)))).set 51 (.int (nI (0 + 4)))).set 51 (.int (nI ((0 + 4) + 1)))).set 51 (.int (nI ((0 + 4) + 2)))).set 51 (.int (nI ((0 + 4) + 3)))).set 51 (.int (nI ((0 + 4) + 4)))).set 51 (.int (nI (((0 + 4) + 4) + 1)))).set 51 (.int (nI (((0 + 4) + 4) + 2)))).set 51 (.int (nI (((0 + 4) + 4) + 3)))).set 51 (.int (nI (((0 + 4) + 4) + 4)))).set 51 (.int (nI ((((0 + 4) + 4) + 4) + 1)))).set 51 (.int (nI ((((0 + 4) + 4) + 4) + 2)))).set 51 (.int (nI ((((0 + 4) + 4) + 4) + 3)))).set 51 (.int (nI ((((0 + 4) + 4) + 4) + 4)))))), (qc, .inl (cc, 16384, .inl f1_3))]) [0, 1] (by decide) rfl
  have hKc := hK.sub (tys' := [(cc, .byte)]) [0] rfl
  have hFc := va_free (wc := [(h0, .inr (8, (((((((((((((((((fs.set 49 (.int 0)).set 51 (.int (nI (0 + 1)))).set 51 (.int (nI (0 + 2)))).set 51 (.int (nI (0 + 3)))).set 51 (.int (nI (0 + 4)))).set 51 (.int (nI ((0 + 4) + 1)))).set 51 (.int (nI ((0 + 4) + 2)))).set 51 (.int (nI ((0 + 4) + 3)))).set 51 (.int (nI ((0 + 4) + 4)))).set 51 (.int (nI (((0 + 4) + 4) + 1)))).set 51 (.int (nI (((0 + 4) + 4) + 2)))).set 51 (.int (nI (((0 + 4) + 4) + 3)))).set 51 (.int (nI (((0 + 4) + 4) + 4)))).set 51 (.int (nI ((((0 + 4) + 4) + 4) + 1)))).set 51 (.int (nI ((((0 + 4) + 4) + 4) + 2)))).set 51 (.int (nI ((((0 + 4) + 4) + 4) + 3)))).set 51 (.int (nI ((((0 + 4) + 4) + 4) + 4)))))), (qc, .inl (cc, 16384, .inl f1_3))]) hD hS hA [0, 1] rfl
  refine va_callv (va_runV (As := [.int x5]) (rest := []) ⟨hx, hb, hml, hown, htw⟩ (px_M_take l dC dI H.size h0 (((((((((((((((((fs.set 49 (.int 0)).set 51 (.int (nI (0 + 1)))).set 51 (.int (nI (0 + 2)))).set 51 (.int (nI (0 + 3)))).set 51 (.int (nI (0 + 4)))).set 51 (.int (nI ((0 + 4) + 1)))).set 51 (.int (nI ((0 + 4) + 2)))).set 51 (.int (nI ((0 + 4) + 3)))).set 51 (.int (nI ((0 + 4) + 4)))).set 51 (.int (nI (((0 + 4) + 4) + 1)))).set 51 (.int (nI (((0 + 4) + 4) + 2)))).set 51 (.int (nI (((0 + 4) + 4) + 3)))).set 51 (.int (nI (((0 + 4) + 4) + 4)))).set 51 (.int (nI ((((0 + 4) + 4) + 4) + 1)))).set 51 (.int (nI ((((0 + 4) + 4) + 4) + 2)))).set 51 (.int (nI ((((0 + 4) + 4) + 4) + 3)))).set 51 (.int (nI ((((0 + 4) + 4) + 4) + 4)))) qc cc ((((0 + 4) + 4) + 4) + 4) f1_3 x5 (px_sl (px_sl (px_sl (px_sl (px_sl (px_sl (px_sl (px_sl (px_sl (px_sl (px_sl (px_sl (px_sl (px_sl (px_sl (px_sl (px_sl hlen))))))))))))))))) ((px_sn (by decide)).trans ((px_sn (by decide)).trans ((px_sn (by decide)).trans ((px_sn (by decide)).trans ((px_sn (by decide)).trans ((px_sn (by decide)).trans ((px_sn (by decide)).trans ((px_sn (by decide)).trans ((px_sn (by decide)).trans ((px_sn (by decide)).trans ((px_sn (by decide)).trans ((px_sn (by decide)).trans ((px_sn (by decide)).trans ((px_sn (by decide)).trans ((px_sn (by decide)).trans ((px_sn (by decide)).trans ((px_sn (by decide)).trans hk_50))))))))))))))))) (px_ss (px_sl (px_sl (px_sl (px_sl (px_sl (px_sl (px_sl (px_sl (px_sl (px_sl (px_sl (px_sl (px_sl (px_sl (px_sl (px_sl hlen)))))))))))))))) (by decide)) (by decide)) (cwV 1 htw (px_gv px_w403 px_w396 px_w397 px_w94 px_g41) rfl rfl rfl (by decide +kernel) ⟨Nat.le_of_ble_eq_true rfl, Nat.le_of_ble_eq_true rfl⟩) ⟨fun a U g mk q => by obtain ⟨q0, q1, qP, qK, qD, qN⟩ := q; exact ⟨q0, q1, qP, va_K.moved (u := U) (U := U.calling g mk a) (Vm.Alike.refl U.vm) qK, qD, qN.same rfl⟩, va_recv hK hP (ci := 8) (q0 := 0) rfl rfl, fun U hU hW => ⟨rfl, by rw [hU], by rw [hU]; exact hPc, va_K.moved hW.alike hKc, hDc.weaken (fun _ _ _ _ => trivial), hN.warm hW⟩⟩ rfl rfl hl.1 rfl (lv_room (Nat.le_of_ble_eq_true rfl)) px_d42_53 ⟨(Nat.le_of_ble_eq_true rfl), (Nat.le_of_ble_eq_true rfl)⟩) hS (fun q _ h => hFc q h) hFc (fun u t H1 locs ht hvm hw_53 hB hz1 hk1 hS => ?_)
  obtain ⟨f1_4, hP1, hK1, hD1⟩ := hB
  rw [ht] at hP1
  have hK1 := va_K.moved hvm.symm hK1
  obtain ⟨hP, hD⟩ := va_join (wr := []) (w1 := [(h0, .inr (8, (((((((((((((((((((((fs.set 49 (.int 0)).set 51 (.int (nI (0 + 1)))).set 51 (.int (nI (0 + 2)))).set 51 (.int (nI (0 + 3)))).set 51 (.int (nI (0 + 4)))).set 51 (.int (nI ((0 + 4) + 1)))).set 51 (.int (nI ((0 + 4) + 2)))).set 51 (.int (nI ((0 + 4) + 3)))).set 51 (.int (nI ((0 + 4) + 4)))).set 51 (.int (nI (((0 + 4) + 4) + 1)))).set 51 (.int (nI (((0 + 4) + 4) + 2)))).set 51 (.int (nI (((0 + 4) + 4) + 3)))).set 51 (.int (nI (((0 + 4) + 4) + 4)))).set 51 (.int (nI ((((0 + 4) + 4) + 4) + 1)))).set 51 (.int (nI ((((0 + 4) + 4) + 4) + 2)))).set 51 (.int (nI ((((0 + 4) + 4) + 4) + 3)))).set 51 (.int (nI ((((0 + 4) + 4) + 4) + 4)))).set 51 (.int (nI (((((0 + 4) + 4) + 4) + 4) + 1)))).set 51 (.int (nI (((((0 + 4) + 4) + 4) + 4) + 2)))).set 51 (.int (nI (((((0 + 4) + 4) + 4) + 4) + 3)))).set 51 (.int (nI (((((0 + 4) + 4) + 4) + 4) + 4)))))), (qc, .inl (cc, 16384, .inl f1_4))]) hP hD [0, 1] [] rfl rfl (by decide) (by decide) hk1 hFc hP1 hD1
  generalize H1 = H at hP hS ⊢
  have hP : va_P (dC, dI) vwCl [(h0, .inr (8, (((((((((((((((((((((fs.set 49 (.int 0)).set 51 (.int (nI (0 + 1)))).set 51 (.int (nI (0 + 2)))).set 51 (.int (nI (0 + 3)))).set 51 (.int (nI (0 + 4)))).set 51 (.int (nI ((0 + 4) + 1)))).set 51 (.int (nI ((0 + 4) + 2)))).set 51 (.int (nI ((0 + 4) + 3)))).set 51 (.int (nI ((0 + 4) + 4)))).set 51 (.int (nI (((0 + 4) + 4) + 1)))).set 51 (.int (nI (((0 + 4) + 4) + 2)))).set 51 (.int (nI (((0 + 4) + 4) + 3)))).set 51 (.int (nI (((0 + 4) + 4) + 4)))).set 51 (.int (nI ((((0 + 4) + 4) + 4) + 1)))).set 51 (.int (nI ((((0 + 4) + 4) + 4) + 2)))).set 51 (.int (nI ((((0 + 4) + 4) + 4) + 3)))).set 51 (.int (nI ((((0 + 4) + 4) + 4) + 4)))).set 51 (.int (nI (((((0 + 4) + 4) + 4) + 4) + 1)))).set 51 (.int (nI (((((0 + 4) + 4) + 4) + 4) + 2)))).set 51 (.int (nI (((((0 + 4) + 4) + 4) + 4) + 3)))).set 51 (.int (nI (((((0 + 4) + 4) + 4) + 4) + 4)))))), (qc, .inl (cc, 16384, .inl f1_4))] H := hP
  have hD : va_D A [(h0, .inr (8, (((((((((((((((((((((fs.set 49 (.int 0)).set 51 (.int (nI (0 + 1)))).set 51 (.int (nI (0 + 2)))).set 51 (.int (nI (0 + 3)))).set 51 (.int (nI (0 + 4)))).set 51 (.int (nI ((0 + 4) + 1)))).set 51 (.int (nI ((0 + 4) + 2)))).set 51 (.int (nI ((0 + 4) + 3)))).set 51 (.int (nI ((0 + 4) + 4)))).set 51 (.int (nI (((0 + 4) + 4) + 1)))).set 51 (.int (nI (((0 + 4) + 4) + 2)))).set 51 (.int (nI (((0 + 4) + 4) + 3)))).set 51 (.int (nI (((0 + 4) + 4) + 4)))).set 51 (.int (nI ((((0 + 4) + 4) + 4) + 1)))).set 51 (.int (nI ((((0 + 4) + 4) + 4) + 2)))).set 51 (.int (nI ((((0 + 4) + 4) + 4) + 3)))).set 51 (.int (nI ((((0 + 4) + 4) + 4) + 4)))).set 51 (.int (nI (((((0 + 4) + 4) + 4) + 4) + 1)))).set 51 (.int (nI (((((0 + 4) + 4) + 4) + 4) + 2)))).set 51 (.int (nI (((((0 + 4) + 4) + 4) + 4) + 3)))).set 51 (.int (nI (((((0 + 4) + 4) + 4) + 4) + 4)))))), (qc, .inl (cc, 16384, .inl f1_4))] := hD
  have hP9 := hP.sub (ws' := [(h0, .inr (8, (((((((((((((((((((((fs.set 49 (.int 0)).set 51 (.int (nI (0 + 1)))).set 51 (.int (nI (0 + 2)))).set 51 (.int (nI (0 + 3)))).set 51 (.int (nI (0 + 4)))).set 51 (.int (nI ((0 + 4) + 1)))).set 51 (.int (nI ((0 + 4) + 2)))).set 51 (.int (nI ((0 + 4) + 3)))).set 51 (.int (nI ((0 + 4) + 4)))).set 51 (.int (nI (((0 + 4) + 4) + 1)))).set 51 (.int (nI (((0 + 4) + 4) + 2)))).set 51 (.int (nI (((0 + 4) + 4) + 3)))).set 51 (.int (nI (((0 + 4) + 4) + 4)))).set 51 (.int (nI ((((0 + 4) + 4) + 4) + 1)))).set 51 (.int (nI ((((0 + 4) + 4) + 4) + 2)))).set 51 (.int (nI ((((0 + 4) + 4) + 4) + 3)))).set 51 (.int (nI ((((0 + 4) + 4) + 4) + 4)))).set 51 (.int (nI (((((0 + 4) + 4) + 4) + 4) + 1)))).set 51 (.int (nI (((((0 + 4) + 4) + 4) + 4) + 2)))).set 51 (.int (nI (((((0 + 4) + 4) + 4) + 4) + 3)))).set 51 (.int (nI (((((0 + 4) + 4) + 4) + 4) + 4))))))]) [0] rfl
  have hD9 := hD.sub (ws' := [(h0, .inr (8, (((((((((((((((((((((fs.set 49 (.int 0)).set 51 (.int (nI (0 + 1)))).set 51 (.int (nI (0 + 2)))).set 51 (.int (nI (0 + 3)))).set 51 (.int (nI (0 + 4)))).set 51 (.int (nI ((0 + 4) + 1)))).set 51 (.int (nI ((0 + 4) + 2)))).set 51 (.int (nI ((0 + 4) + 3)))).set 51 (.int (nI ((0 + 4) + 4)))).set 51 (.int (nI (((0 + 4) + 4) + 1)))).set 51 (.int (nI (((0 + 4) + 4) + 2)))).set 51 (.int (nI (((0 + 4) + 4) + 3)))).set 51 (.int (nI (((0 + 4) + 4) + 4)))).set 51 (.int (nI ((((0 + 4) + 4) + 4) + 1)))).set 51 (.int (nI ((((0 + 4) + 4) + 4) + 2)))).set 51 (.int (nI ((((0 + 4) + 4) + 4) + 3)))).set 51 (.int (nI ((((0 + 4) + 4) + 4) + 4)))).set 51 (.int (nI (((((0 + 4) + 4) + 4) + 4) + 1)))).set 51 (.int (nI (((((0 + 4) + 4) + 4) + 4) + 2)))).set 51 (.int (nI (((((0 + 4) + 4) + 4) + 4) + 3)))).set 51 (.int (nI (((((0 + 4) + 4) + 4) + 4) + 4))))))]) [0] (by decide) rfl
  have hK9 := hK.sub (tys' := [(cc, .byte)]) [0] rfl
  refine W.widen (k := 0) (n := 0) (Nat.le_of_ble_eq_true rfl) (Nat.le_of_ble_eq_true rfl) ?_
  exact W.vret hx hb hr (fun t ht hW => ⟨⟨(), rfl, trivial, by rw [ht]; exact hP9, va_K.moved hW.alike hK9, hD9⟩, hS.F ht⟩) hS.2.2 px_d42_56
set_option maxHeartbeats 4000000 in
set_option maxRecDepth 100000 in
/-- end(0) -/
theorem px_M_end0 (l : Launch) (dC : Nat → ClassId) (dI : Nat → Nat → Nat) (sz : Nat) (h0 : Nat) (fs : List Value) (hlen : fs.length = 53) (hk_51 : fs[51]? = some (.int 0)) : Met l px_y43 px_s43 ({ frames := 0, cells := 0, slots := 0, locals := 0 }) (va_Pc [.ref h0, .int 0] (fun U => U.heap.size = sz ∧ va_P (dC, dI) vwCl [(h0, .inr (8, fs))] U.heap ∧ va_K (dC, dI) vwCl [] U ∧ va_D (fun _ => True) [(h0, .inr (8, fs))] ∧ px_N U)) (va_Qi (fun (r : Int32) (_ : Unit) => r = 0) (fun (_ : Unit) (t : State) => va_P (dC, dI) vwCl [(h0, .inr (8, ((fs.set 49 (.int 0)).set 51 (.int 0))))] t.heap ∧ va_K (dC, dI) vwCl [] t ∧ va_D (va_A [(h0, .inr (8, fs))] sz) [(h0, .inr (8, ((fs.set 49 (.int 0)).set 51 (.int 0))))]) (va_A [(h0, .inr (8, fs))] sz)) 0 0 (va_A [(h0, .inr (8, fs))] sz) := by
  refine Met.ofW (cc := prog_15_method_91_code) (maxL := 3) (ret := (some .int)) (by decide) rfl ?_
  intro p e s m args below meth c s₁ B hml hv
  obtain ⟨rfl, hsz, hP, hK, hD0, hN⟩ := hv
  have hx := B.exec
  have hb := B.bytes
  have hr := B.returns
  have htw : ∀ w ∈ px_all, w.before _ s = true := fun w h => atoms_spec (ws := px_s43) B.pre w (List.mem_cons_of_mem _ h)
  have hown : s.vm.findClass "MatroidDeskModel" = some m.cls := findClass_of_methodNamed B.named
  have hlocks := B.notSynchronized
  subst hsz
  have hD := hD0.self (sz := s.heap.size)
  generalize hAe : va_A [(h0, .inr (8, fs))] s.heap.size = A at hD ⊢
  have hA : ∀ q : Nat, s.heap.size ≤ q → A q := fun q h => by rw [← hAe]; exact Or.inr h
  have hS : va_S A s.heap s.heap [] := va_S.rf
  have hP : va_P (dC, dI) vwCl [(h0, .inr (8, fs))] s.heap := hP
  have hl := lv_entry ([.ref h0, .int 0]) (n := 3) (Nat.le_of_ble_eq_true rfl)
  rw [lg_entry_eq]
  generalize (lg_sl ([.ref h0, .int 0]) ++ List.replicate (3 - (lg_sl ([.ref h0, .int 0])).length) Slot.unset).toArray = ls at hl ⊢
  have hl : lv_has ls 3 [(0, .ref h0), (1, .int 0)] := hl
  refine lv_aload_n hx hb px_d43_0 rfl (lv_at hl 0 rfl) ?_
  refine lv_iload_n hx hb px_d43_1 rfl (lv_at hl 1 rfl) ?_
  refine lv_if_lt (tgt := 13) hx hb px_d43_2 (by decide) (fun h9 => absurd h9 (by decide +kernel)) (fun _ => ?_)
  refine lv_iload_n hx hb px_d43_5 rfl (lv_at hl 1 rfl) ?_
  refine lv_aload_n hx hb px_d43_6 rfl (lv_at hl 0 rfl) ?_
  refine va_get (D := (dC, dI)) (ci := 8) (v := .int 0) (C := "MatroidDeskModel") (T := px_T8) (N := 53) hx hb htw px_in8 hown hK hP 0 rfl rfl 51 (by decide) (htw _ px_w398) (fun _ h9 => h9) hk_51 px_d43_7 ?_
  refine lv_icmp_le (tgt := 17) hx hb px_d43_10 (by decide) (fun _ => ?_) (fun h9 => absurd (by decide +kernel) h9)
  refine lv_iconst (v := 0) hx hb px_d43_17 (by decide) ?_
  refine va_put (D := (dC, dI)) (ci := 8) (v := .int 0) (ty := .int) (C := "MatroidDeskModel") (T := px_T8) (N := 53) hx hb htw px_in8 px_ty8 px_tyok8 px_nm8 hown hK hP hD hS 0 rfl rfl 49 (by decide) (htw _ px_w402) (fun _ h9 => h9) rfl (by decide +kernel) rfl rfl (by rw [hlen]; decide) px_d43_18 (fun H locs hP hD hS => ?_)
  have hP : va_P (dC, dI) vwCl [(h0, .inr (8, (fs.set 49 (.int 0))))] H := hP
  have hD : va_D A [(h0, .inr (8, (fs.set 49 (.int 0))))] := hD
  refine lv_aload_n hx hb px_d43_21 rfl (lv_at hl 0 rfl) ?_
  refine va_get (D := (dC, dI)) (ci := 8) (v := .int 0) (C := "MatroidDeskModel") (T := px_T8) (N := 53) hx hb htw px_in8 hown hK hP 0 rfl rfl 49 (by decide) (htw _ px_w402) (fun _ h9 => h9) (px_ss hlen (by decide)) px_d43_22 ?_
  refine lv_if_le (tgt := 30) hx hb px_d43_25 (by decide) (fun _ => ?_) (fun h9 => absurd (by decide +kernel) h9)
  refine lv_aload_n hx hb px_d43_30 rfl (lv_at hl 0 rfl) ?_
  refine va_get (D := (dC, dI)) (ci := 8) (v := .int 0) (C := "MatroidDeskModel") (T := px_T8) (N := 53) hx hb htw px_in8 hown hK hP 0 rfl rfl 51 (by decide) (htw _ px_w398) (fun _ h9 => h9) ((px_sn (by decide)).trans hk_51) px_d43_31 ?_
  refine lv_istore_n (lv' := [(2, .int 0), (0, .ref h0), (1, .int 0)]) hx hb px_d43_34 rfl hl (by decide) rfl (fun ls hl => ?_)
  refine lv_aload_n hx hb px_d43_35 rfl (lv_at hl 1 rfl) ?_
  refine lv_iload_n hx hb px_d43_36 rfl (lv_at hl 2 rfl) ?_
  refine va_put (D := (dC, dI)) (ci := 8) (v := .int 0) (ty := .int) (C := "MatroidDeskModel") (T := px_T8) (N := 53) hx hb htw px_in8 px_ty8 px_tyok8 px_nm8 hown hK hP hD hS 0 rfl rfl 51 (by decide) (htw _ px_w398) (fun _ h9 => h9) rfl (by decide +kernel) rfl rfl (by rw [(px_sl hlen)]; decide) px_d43_37 (fun H locs hP hD hS => ?_)
  have hP : va_P (dC, dI) vwCl [(h0, .inr (8, ((fs.set 49 (.int 0)).set 51 (.int 0))))] H := hP
  have hD : va_D A [(h0, .inr (8, ((fs.set 49 (.int 0)).set 51 (.int 0))))] := hD
  refine lv_iload_n hx hb px_d43_40 rfl (lv_at hl 0 rfl) ?_
  have hP9 := hP.sub (ws' := [(h0, .inr (8, ((fs.set 49 (.int 0)).set 51 (.int 0))))]) [0] rfl
  have hD9 := hD.sub (ws' := [(h0, .inr (8, ((fs.set 49 (.int 0)).set 51 (.int 0))))]) [0] (by decide) rfl
  have hK9 := hK.sub (tys' := []) [] rfl
  refine W.widen (k := 0) (n := 0) (Nat.le_of_ble_eq_true rfl) (Nat.le_of_ble_eq_true rfl) ?_
  exact W.iret (v := 0) hx hb hr (fun t ht hW => ⟨⟨0, (), rfl, rfl, by rw [ht]; exact hP9, va_K.moved hW.alike hK9, hD9⟩, hS.F ht⟩) hS.2.2 px_d43_41
set_option maxHeartbeats 4000000 in
set_option maxRecDepth 100000 in
/-- look -/
theorem px_M_look (l : Launch) (dC : Nat → ClassId) (dI : Nat → Nat → Nat) (sz : Nat) (h0 : Nat) (fs : List Value) (hlen : fs.length = 53) (hk_37 : fs[37]? = some (.int 0)) : Met l px_y45 px_s45 ({ frames := 0, cells := 0, slots := 0, locals := 0 }) (va_Pc [.ref h0, .int 0] (fun U => U.heap.size = sz ∧ va_P (dC, dI) vwCl [(h0, .inr (8, fs))] U.heap ∧ va_K (dC, dI) vwCl [] U ∧ va_D (fun _ => True) [(h0, .inr (8, fs))] ∧ px_N U)) (va_Qi (fun (r : Int32) (_ : Unit) => r = (-1)) (fun (_ : Unit) (t : State) => va_P (dC, dI) vwCl [(h0, .inr (8, fs))] t.heap ∧ va_K (dC, dI) vwCl [] t ∧ va_D (va_A [(h0, .inr (8, fs))] sz) [(h0, .inr (8, fs))]) (va_A [(h0, .inr (8, fs))] sz)) 0 0 (va_A [(h0, .inr (8, fs))] sz) := by
  refine Met.ofW (cc := prog_15_method_50_code) (maxL := 2) (ret := (some .int)) (by decide) rfl ?_
  intro p e s m args below meth c s₁ B hml hv
  obtain ⟨rfl, hsz, hP, hK, hD0, hN⟩ := hv
  have hx := B.exec
  have hb := B.bytes
  have hr := B.returns
  have htw : ∀ w ∈ px_all, w.before _ s = true := fun w h => atoms_spec (ws := px_s45) B.pre w (List.mem_cons_of_mem _ h)
  have hown : s.vm.findClass "MatroidDeskModel" = some m.cls := findClass_of_methodNamed B.named
  have hlocks := B.notSynchronized
  subst hsz
  have hD := hD0.self (sz := s.heap.size)
  generalize hAe : va_A [(h0, .inr (8, fs))] s.heap.size = A at hD ⊢
  have hA : ∀ q : Nat, s.heap.size ≤ q → A q := fun q h => by rw [← hAe]; exact Or.inr h
  have hS : va_S A s.heap s.heap [] := va_S.rf
  have hP : va_P (dC, dI) vwCl [(h0, .inr (8, fs))] s.heap := hP
  have hl := lv_entry ([.ref h0, .int 0]) (n := 2) (Nat.le_of_ble_eq_true rfl)
  rw [lg_entry_eq]
  generalize (lg_sl ([.ref h0, .int 0]) ++ List.replicate (2 - (lg_sl ([.ref h0, .int 0])).length) Slot.unset).toArray = ls at hl ⊢
  have hl : lv_has ls 2 [(0, .ref h0), (1, .int 0)] := hl
  refine lv_iload_n hx hb px_d45_0 rfl (lv_at hl 1 rfl) ?_
  refine lv_aload_n hx hb px_d45_1 rfl (lv_at hl 0 rfl) ?_
  refine va_get (D := (dC, dI)) (ci := 8) (v := .int 0) (C := "MatroidDeskModel") (T := px_T8) (N := 53) hx hb htw px_in8 hown hK hP 0 rfl rfl 37 (by decide) (htw _ px_w413) (fun _ h9 => h9) hk_37 px_d45_2 ?_
  refine lv_icmp_ge (tgt := 17) hx hb px_d45_5 (by decide) (fun _ => ?_) (fun h9 => absurd (by decide +kernel) h9)
  refine lv_iconst (v := (-1)) hx hb px_d45_17 (by decide) ?_
  have hP9 := hP.sub (ws' := [(h0, .inr (8, fs))]) [0] rfl
  have hD9 := hD.sub (ws' := [(h0, .inr (8, fs))]) [0] (by decide) rfl
  have hK9 := hK.sub (tys' := []) [] rfl
  refine W.widen (k := 0) (n := 0) (Nat.le_of_ble_eq_true rfl) (Nat.le_of_ble_eq_true rfl) ?_
  exact W.iret (v := (-1)) hx hb hr (fun t ht hW => ⟨⟨(-1), (), rfl, rfl, by rw [ht]; exact hP9, va_K.moved hW.alike hK9, hD9⟩, hS.F ht⟩) hS.2.2 px_d45_18
set_option maxHeartbeats 4000000 in
set_option maxRecDepth 100000 in
/-- next -/
theorem px_M_next (l : Launch) (dC : Nat → ClassId) (dI : Nat → Nat → Nat) (sz : Nat) (h0 : Nat) (fs : List Value) (hlen : fs.length = 53) (hk_37 : fs[37]? = some (.int 0)) (hk_40 : fs[40]? = some (.int 0)) : Met l px_y46 px_s46 ({ frames := 1, cells := 0, slots := 0, locals := 21 }) (va_Pc [.ref h0] (fun U => U.heap.size = sz ∧ va_P (dC, dI) vwCl [(h0, .inr (8, fs))] U.heap ∧ va_K (dC, dI) vwCl [] U ∧ va_D (fun _ => True) [(h0, .inr (8, fs))] ∧ px_N U)) (va_Qv (fun (_ : Unit) => True) (fun (_ : Unit) (t : State) => va_P (dC, dI) vwCl [(h0, .inr (8, ((((fs.set 39 (.int 0)).set 40 (.int 1)).set 38 (.int 0)).set 40 (.int 0))))] t.heap ∧ va_K (dC, dI) vwCl [] t ∧ va_D (va_A [(h0, .inr (8, fs))] sz) [(h0, .inr (8, ((((fs.set 39 (.int 0)).set 40 (.int 1)).set 38 (.int 0)).set 40 (.int 0))))]) (va_A [(h0, .inr (8, fs))] sz)) 0 0 (va_A [(h0, .inr (8, fs))] sz) := by
  refine Met.ofW (cc := prog_15_method_53_code) (maxL := 5) (ret := none) (by decide) rfl ?_
  intro p e s m args below meth c s₁ B hml hv
  obtain ⟨rfl, hsz, hP, hK, hD0, hN⟩ := hv
  have hx := B.exec
  have hb := B.bytes
  have hr := B.returns
  have htw : ∀ w ∈ px_all, w.before _ s = true := fun w h => atoms_spec (ws := px_s46) B.pre w (List.mem_cons_of_mem _ h)
  have hown : s.vm.findClass "MatroidDeskModel" = some m.cls := findClass_of_methodNamed B.named
  have hlocks := B.notSynchronized
  subst hsz
  have hD := hD0.self (sz := s.heap.size)
  generalize hAe : va_A [(h0, .inr (8, fs))] s.heap.size = A at hD ⊢
  have hA : ∀ q : Nat, s.heap.size ≤ q → A q := fun q h => by rw [← hAe]; exact Or.inr h
  have hS : va_S A s.heap s.heap [] := va_S.rf
  have hP : va_P (dC, dI) vwCl [(h0, .inr (8, fs))] s.heap := hP
  have hl := lv_entry ([.ref h0]) (n := 5) (Nat.le_of_ble_eq_true rfl)
  rw [lg_entry_eq]
  generalize (lg_sl ([.ref h0]) ++ List.replicate (5 - (lg_sl ([.ref h0])).length) Slot.unset).toArray = ls at hl ⊢
  have hl : lv_has ls 5 [(0, .ref h0)] := hl
  refine lv_aload_n hx hb px_d46_0 rfl (lv_at hl 0 rfl) ?_
  refine va_get (D := (dC, dI)) (ci := 8) (v := .int 0) (C := "MatroidDeskModel") (T := px_T8) (N := 53) hx hb htw px_in8 hown hK hP 0 rfl rfl 40 (by decide) (htw _ px_w417) (fun _ h9 => h9) hk_40 px_d46_1 ?_
  refine lv_istore_n (lv' := [(1, .int 0), (0, .ref h0)]) hx hb px_d46_4 rfl hl (by decide) rfl (fun ls hl => ?_)
  refine lv_aload_n hx hb px_d46_5 rfl (lv_at hl 1 rfl) ?_
  refine lv_iload_n hx hb px_d46_6 rfl (lv_at hl 0 rfl) ?_
  have hPc := hP.sub (ws' := [(h0, .inr (8, fs))]) [0] rfl
  have hDc := hD.sub (ws' := [(h0, .inr (8, fs))]) [0] (by decide) rfl
  have hKc := hK.sub (tys' := []) [] rfl
  have hFc := va_free (wc := [(h0, .inr (8, fs))]) hD hS hA [0] rfl
  refine va_calli (va_runV (As := [.int 0]) (rest := []) ⟨hx, hb, hml, hown, htw⟩ (px_M_look l dC dI s.heap.size h0 fs hlen hk_37) (cwV 1 htw (px_gv px_w418 px_w411 px_w412 px_w94 px_g45) rfl rfl rfl (by decide +kernel) ⟨Nat.le_of_ble_eq_true rfl, Nat.le_of_ble_eq_true rfl⟩) ⟨fun a U g mk q => by obtain ⟨q0, q1, qP, qK, qD, qN⟩ := q; exact ⟨q0, q1, qP, va_K.moved (u := U) (U := U.calling g mk a) (Vm.Alike.refl U.vm) qK, qD, qN.same rfl⟩, va_recv hK hP (ci := 8) (q0 := 0) rfl rfl, fun U hU hW => ⟨rfl, by rw [hU], by rw [hU]; exact hPc, va_K.moved hW.alike hKc, hDc.weaken (fun _ _ _ _ => trivial), hN.warm hW⟩⟩ rfl rfl hl.1 rfl (lv_room (Nat.le_of_ble_eq_true rfl)) px_d46_7 ⟨(Nat.le_of_ble_eq_true rfl), (Nat.le_of_ble_eq_true rfl)⟩) hS (fun q _ h => hFc q h) hFc (fun r u t H1 locs ht hvm hw_7 hB hz1 hk1 hS => ?_)
  obtain ⟨hP1, hK1, hD1⟩ := hB
  rw [ht] at hP1
  have hK1 := va_K.moved hvm.symm hK1
  obtain ⟨hP, hD⟩ := va_join (wr := []) (w1 := [(h0, .inr (8, fs))]) hP hD [0] [] rfl rfl (by decide) (by decide) hk1 hFc hP1 hD1
  generalize H1 = H at hP hS ⊢
  have hP : va_P (dC, dI) vwCl [(h0, .inr (8, fs))] H := hP
  have hD : va_D A [(h0, .inr (8, fs))] := hD
  subst hw_7
  refine lv_istore_n (lv' := [(2, .int (-1)), (1, .int 0), (0, .ref h0)]) hx hb px_d46_10 rfl hl (by decide) rfl (fun ls hl => ?_)
  refine lv_iload_n hx hb px_d46_11 rfl (lv_at hl 0 rfl) ?_
  refine lv_bipush (v := 32) hx hb px_d46_12 (by decide) ?_
  refine lv_icmp_eq (tgt := 41) hx hb px_d46_14 (by decide) (fun h9 => absurd h9 (by decide +kernel)) (fun _ => ?_)
  refine lv_iload_n hx hb px_d46_17 rfl (lv_at hl 0 rfl) ?_
  refine lv_bipush (v := 10) hx hb px_d46_18 (by decide) ?_
  refine lv_icmp_eq (tgt := 41) hx hb px_d46_20 (by decide) (fun h9 => absurd h9 (by decide +kernel)) (fun _ => ?_)
  refine lv_iload_n hx hb px_d46_23 rfl (lv_at hl 0 rfl) ?_
  refine lv_bipush (v := 13) hx hb px_d46_24 (by decide) ?_
  refine lv_icmp_eq (tgt := 41) hx hb px_d46_26 (by decide) (fun h9 => absurd h9 (by decide +kernel)) (fun _ => ?_)
  refine lv_iload_n hx hb px_d46_29 rfl (lv_at hl 0 rfl) ?_
  refine lv_bipush (v := 9) hx hb px_d46_30 (by decide) ?_
  refine lv_icmp_eq (tgt := 41) hx hb px_d46_32 (by decide) (fun h9 => absurd h9 (by decide +kernel)) (fun _ => ?_)
  refine lv_iload_n hx hb px_d46_35 rfl (lv_at hl 0 rfl) ?_
  refine lv_bipush (v := 35) hx hb px_d46_36 (by decide) ?_
  refine lv_icmp_ne (tgt := 84) hx hb px_d46_38 (by decide) (fun _ => ?_) (fun h9 => absurd h9 (by decide +kernel))
  refine lv_aload_n hx hb px_d46_84 rfl (lv_at hl 2 rfl) ?_
  refine lv_iload_n hx hb px_d46_85 rfl (lv_at hl 1 rfl) ?_
  refine va_put (D := (dC, dI)) (ci := 8) (v := .int 0) (ty := .int) (C := "MatroidDeskModel") (T := px_T8) (N := 53) hx hb htw px_in8 px_ty8 px_tyok8 px_nm8 hown hK hP hD hS 0 rfl rfl 39 (by decide) (htw _ px_w419) (fun _ h9 => h9) rfl (by decide +kernel) rfl rfl (by rw [hlen]; decide) px_d46_86 (fun H locs hP hD hS => ?_)
  have hP : va_P (dC, dI) vwCl [(h0, .inr (8, (fs.set 39 (.int 0))))] H := hP
  have hD : va_D A [(h0, .inr (8, (fs.set 39 (.int 0))))] := hD
  refine lv_aload_n hx hb px_d46_89 rfl (lv_at hl 2 rfl) ?_
  refine lv_iload_n hx hb px_d46_90 rfl (lv_at hl 1 rfl) ?_
  refine lv_iconst (v := 1) hx hb px_d46_91 (by decide) ?_
  refine lv_iadd hx hb px_d46_92 ?_
  refine lv_topi (nm_r (e' := (1 : Int32)) (by decide +kernel) ?_)
  refine va_put (D := (dC, dI)) (ci := 8) (v := .int 1) (ty := .int) (C := "MatroidDeskModel") (T := px_T8) (N := 53) hx hb htw px_in8 px_ty8 px_tyok8 px_nm8 hown hK hP hD hS 0 rfl rfl 40 (by decide) (htw _ px_w417) (fun _ h9 => h9) rfl (by decide +kernel) rfl rfl (by rw [(px_sl hlen)]; decide) px_d46_93 (fun H locs hP hD hS => ?_)
  have hP : va_P (dC, dI) vwCl [(h0, .inr (8, ((fs.set 39 (.int 0)).set 40 (.int 1))))] H := hP
  have hD : va_D A [(h0, .inr (8, ((fs.set 39 (.int 0)).set 40 (.int 1))))] := hD
  refine lv_iload_n hx hb px_d46_96 rfl (lv_at hl 1 rfl) ?_
  refine lv_aload_n hx hb px_d46_97 rfl (lv_at hl 2 rfl) ?_
  refine va_get (D := (dC, dI)) (ci := 8) (v := .int 0) (C := "MatroidDeskModel") (T := px_T8) (N := 53) hx hb htw px_in8 hown hK hP 0 rfl rfl 37 (by decide) (htw _ px_w413) (fun _ h9 => h9) ((px_sn (by decide)).trans ((px_sn (by decide)).trans hk_37)) px_d46_98 ?_
  refine lv_icmp_lt (tgt := 117) hx hb px_d46_101 (by decide) (fun h9 => absurd h9 (by decide +kernel)) (fun _ => ?_)
  refine lv_aload_n hx hb px_d46_104 rfl (lv_at hl 2 rfl) ?_
  refine lv_iconst (v := 0) hx hb px_d46_105 (by decide) ?_
  refine va_put (D := (dC, dI)) (ci := 8) (v := .int 0) (ty := .int) (C := "MatroidDeskModel") (T := px_T8) (N := 53) hx hb htw px_in8 px_ty8 px_tyok8 px_nm8 hown hK hP hD hS 0 rfl rfl 38 (by decide) (htw _ px_w420) (fun _ h9 => h9) rfl (by decide +kernel) rfl rfl (by rw [(px_sl (px_sl hlen))]; decide) px_d46_106 (fun H locs hP hD hS => ?_)
  have hP : va_P (dC, dI) vwCl [(h0, .inr (8, (((fs.set 39 (.int 0)).set 40 (.int 1)).set 38 (.int 0))))] H := hP
  have hD : va_D A [(h0, .inr (8, (((fs.set 39 (.int 0)).set 40 (.int 1)).set 38 (.int 0))))] := hD
  refine lv_aload_n hx hb px_d46_109 rfl (lv_at hl 2 rfl) ?_
  refine lv_iload_n hx hb px_d46_110 rfl (lv_at hl 1 rfl) ?_
  refine va_put (D := (dC, dI)) (ci := 8) (v := .int 0) (ty := .int) (C := "MatroidDeskModel") (T := px_T8) (N := 53) hx hb htw px_in8 px_ty8 px_tyok8 px_nm8 hown hK hP hD hS 0 rfl rfl 40 (by decide) (htw _ px_w417) (fun _ h9 => h9) rfl (by decide +kernel) rfl rfl (by rw [(px_sl (px_sl (px_sl hlen)))]; decide) px_d46_111 (fun H locs hP hD hS => ?_)
  have hP : va_P (dC, dI) vwCl [(h0, .inr (8, ((((fs.set 39 (.int 0)).set 40 (.int 1)).set 38 (.int 0)).set 40 (.int 0))))] H := hP
  have hD : va_D A [(h0, .inr (8, ((((fs.set 39 (.int 0)).set 40 (.int 1)).set 38 (.int 0)).set 40 (.int 0))))] := hD
  refine lv_goto (tgt := 276) hx hb px_d46_114 (by decide) ?_
  have hP9 := hP.sub (ws' := [(h0, .inr (8, ((((fs.set 39 (.int 0)).set 40 (.int 1)).set 38 (.int 0)).set 40 (.int 0))))]) [0] rfl
  have hD9 := hD.sub (ws' := [(h0, .inr (8, ((((fs.set 39 (.int 0)).set 40 (.int 1)).set 38 (.int 0)).set 40 (.int 0))))]) [0] (by decide) rfl
  have hK9 := hK.sub (tys' := []) [] rfl
  refine W.widen (k := 0) (n := 0) (Nat.le_of_ble_eq_true rfl) (Nat.le_of_ble_eq_true rfl) ?_
  exact W.vret hx hb hr (fun t ht hW => ⟨⟨(), rfl, trivial, by rw [ht]; exact hP9, va_K.moved hW.alike hK9, hD9⟩, hS.F ht⟩) hS.2.2 px_d46_276
set_option maxHeartbeats 4000000 in
set_option maxRecDepth 100000 in
/-- isScript -/
theorem px_M_isScript (l : Launch) (dC : Nat → ClassId) (dI : Nat → Nat → Nat) (sz : Nat) (h0 : Nat) (fs : List Value) (hlen : fs.length = 53) (hk_37 : fs[37]? = some (.int 0)) : Met l px_y47 px_s47 ({ frames := 2, cells := 0, slots := 0, locals := 45 }) (va_Pc [.ref h0] (fun U => U.heap.size = sz ∧ va_P (dC, dI) vwCl [(h0, .inr (8, fs))] U.heap ∧ va_K (dC, dI) vwCl [] U ∧ va_D (fun _ => True) [(h0, .inr (8, fs))] ∧ px_N U)) (va_Qi (fun (r : Int32) (_ : Unit) => r = 1) (fun (_ : Unit) (t : State) => va_P (dC, dI) vwCl [(h0, .inr (8, ((((((fs.set 41 (.int 0)).set 40 (.int 0)).set 39 (.int 0)).set 40 (.int 1)).set 38 (.int 0)).set 40 (.int 0))))] t.heap ∧ va_K (dC, dI) vwCl [] t ∧ va_D (va_A [(h0, .inr (8, fs))] sz) [(h0, .inr (8, ((((((fs.set 41 (.int 0)).set 40 (.int 0)).set 39 (.int 0)).set 40 (.int 1)).set 38 (.int 0)).set 40 (.int 0))))]) (va_A [(h0, .inr (8, fs))] sz)) 0 0 (va_A [(h0, .inr (8, fs))] sz) := by
  refine Met.ofW (cc := prog_15_method_63_code) (maxL := 3) (ret := (some .boolean)) (by decide) rfl ?_
  intro p e s m args below meth c s₁ B hml hv
  obtain ⟨rfl, hsz, hP, hK, hD0, hN⟩ := hv
  have hx := B.exec
  have hb := B.bytes
  have hr := B.returns
  have htw : ∀ w ∈ px_all, w.before _ s = true := fun w h => atoms_spec (ws := px_s47) B.pre w (List.mem_cons_of_mem _ h)
  have hown : s.vm.findClass "MatroidDeskModel" = some m.cls := findClass_of_methodNamed B.named
  have hlocks := B.notSynchronized
  subst hsz
  have hD := hD0.self (sz := s.heap.size)
  generalize hAe : va_A [(h0, .inr (8, fs))] s.heap.size = A at hD ⊢
  have hA : ∀ q : Nat, s.heap.size ≤ q → A q := fun q h => by rw [← hAe]; exact Or.inr h
  have hS : va_S A s.heap s.heap [] := va_S.rf
  have hP : va_P (dC, dI) vwCl [(h0, .inr (8, fs))] s.heap := hP
  have hl := lv_entry ([.ref h0]) (n := 3) (Nat.le_of_ble_eq_true rfl)
  rw [lg_entry_eq]
  generalize (lg_sl ([.ref h0]) ++ List.replicate (3 - (lg_sl ([.ref h0])).length) Slot.unset).toArray = ls at hl ⊢
  have hl : lv_has ls 3 [(0, .ref h0)] := hl
  refine lv_aload_n hx hb px_d47_0 rfl (lv_at hl 0 rfl) ?_
  refine lv_iconst (v := 0) hx hb px_d47_1 (by decide) ?_
  refine va_put (D := (dC, dI)) (ci := 8) (v := .int 0) (ty := .boolean) (C := "MatroidDeskModel") (T := px_T8) (N := 53) hx hb htw px_in8 px_ty8 px_tyok8 px_nm8 hown hK hP hD hS 0 rfl rfl 41 (by decide) (htw _ px_w424) (fun _ h9 => h9) rfl (by decide +kernel) (by decide +kernel) (by decide +kernel) (by rw [hlen]; decide) px_d47_2 (fun H locs hP hD hS => ?_)
  have hP : va_P (dC, dI) vwCl [(h0, .inr (8, (fs.set 41 (.int 0))))] H := hP
  have hD : va_D A [(h0, .inr (8, (fs.set 41 (.int 0))))] := hD
  refine lv_aload_n hx hb px_d47_5 rfl (lv_at hl 0 rfl) ?_
  refine lv_iconst (v := 0) hx hb px_d47_6 (by decide) ?_
  refine va_put (D := (dC, dI)) (ci := 8) (v := .int 0) (ty := .int) (C := "MatroidDeskModel") (T := px_T8) (N := 53) hx hb htw px_in8 px_ty8 px_tyok8 px_nm8 hown hK hP hD hS 0 rfl rfl 40 (by decide) (htw _ px_w417) (fun _ h9 => h9) rfl (by decide +kernel) rfl rfl (by rw [(px_sl hlen)]; decide) px_d47_7 (fun H locs hP hD hS => ?_)
  have hP : va_P (dC, dI) vwCl [(h0, .inr (8, ((fs.set 41 (.int 0)).set 40 (.int 0))))] H := hP
  have hD : va_D A [(h0, .inr (8, ((fs.set 41 (.int 0)).set 40 (.int 0))))] := hD
  refine lv_aload_n hx hb px_d47_10 rfl (lv_at hl 0 rfl) ?_
  have hPc := hP.sub (ws' := [(h0, .inr (8, ((fs.set 41 (.int 0)).set 40 (.int 0))))]) [0] rfl
  have hDc := hD.sub (ws' := [(h0, .inr (8, ((fs.set 41 (.int 0)).set 40 (.int 0))))]) [0] (by decide) rfl
  have hKc := hK.sub (tys' := []) [] rfl
  have hFc := va_free (wc := [(h0, .inr (8, ((fs.set 41 (.int 0)).set 40 (.int 0))))]) hD hS hA [0] rfl
  refine va_callv (va_runV (As := []) (rest := []) ⟨hx, hb, hml, hown, htw⟩ (px_M_next l dC dI H.size h0 ((fs.set 41 (.int 0)).set 40 (.int 0)) (px_sl (px_sl hlen)) ((px_sn (by decide)).trans ((px_sn (by decide)).trans hk_37)) (px_ss (px_sl hlen) (by decide))) (cwV 0 htw (px_gv px_w425 px_w415 px_w416 px_w94 px_g46) rfl rfl rfl (by decide +kernel) ⟨Nat.le_of_ble_eq_true rfl, Nat.le_of_ble_eq_true rfl⟩) ⟨fun a U g mk q => by obtain ⟨q0, q1, qP, qK, qD, qN⟩ := q; exact ⟨q0, q1, qP, va_K.moved (u := U) (U := U.calling g mk a) (Vm.Alike.refl U.vm) qK, qD, qN.same rfl⟩, va_recv hK hP (ci := 8) (q0 := 0) rfl rfl, fun U hU hW => ⟨rfl, by rw [hU], by rw [hU]; exact hPc, va_K.moved hW.alike hKc, hDc.weaken (fun _ _ _ _ => trivial), hN.warm hW⟩⟩ rfl rfl hl.1 rfl (lv_room (Nat.le_of_ble_eq_true rfl)) px_d47_11 ⟨(Nat.le_of_ble_eq_true rfl), (Nat.le_of_ble_eq_true rfl)⟩) hS (fun q _ h => hFc q h) hFc (fun u t H1 locs ht hvm hw_11 hB hz1 hk1 hS => ?_)
  obtain ⟨hP1, hK1, hD1⟩ := hB
  rw [ht] at hP1
  have hK1 := va_K.moved hvm.symm hK1
  obtain ⟨hP, hD⟩ := va_join (wr := []) (w1 := [(h0, .inr (8, ((((((fs.set 41 (.int 0)).set 40 (.int 0)).set 39 (.int 0)).set 40 (.int 1)).set 38 (.int 0)).set 40 (.int 0))))]) hP hD [0] [] rfl rfl (by decide) (by decide) hk1 hFc hP1 hD1
  generalize H1 = H at hP hS ⊢
  have hP : va_P (dC, dI) vwCl [(h0, .inr (8, ((((((fs.set 41 (.int 0)).set 40 (.int 0)).set 39 (.int 0)).set 40 (.int 1)).set 38 (.int 0)).set 40 (.int 0))))] H := hP
  have hD : va_D A [(h0, .inr (8, ((((((fs.set 41 (.int 0)).set 40 (.int 0)).set 39 (.int 0)).set 40 (.int 1)).set 38 (.int 0)).set 40 (.int 0))))] := hD
  refine lv_iconst (v := 0) hx hb px_d47_14 (by decide) ?_
  refine lv_istore_n (lv' := [(1, .int 0), (0, .ref h0)]) hx hb px_d47_15 rfl hl (by decide) rfl (fun ls hl => ?_)
  refine lv_aload_n hx hb px_d47_16 rfl (lv_at hl 1 rfl) ?_
  refine va_get (D := (dC, dI)) (ci := 8) (v := .int 0) (C := "MatroidDeskModel") (T := px_T8) (N := 53) hx hb htw px_in8 hown hK hP 0 rfl rfl 41 (by decide) (htw _ px_w424) (fun _ h9 => h9) ((px_sn (by decide)).trans ((px_sn (by decide)).trans ((px_sn (by decide)).trans ((px_sn (by decide)).trans ((px_sn (by decide)).trans (px_ss hlen (by decide))))))) px_d47_17 ?_
  refine lv_if_ne (tgt := 158) hx hb px_d47_20 (by decide) (fun h9 => absurd (by decide +kernel) h9) (fun _ => ?_)
  refine lv_aload_n hx hb px_d47_23 rfl (lv_at hl 1 rfl) ?_
  refine va_get (D := (dC, dI)) (ci := 8) (v := .int 0) (C := "MatroidDeskModel") (T := px_T8) (N := 53) hx hb htw px_in8 hown hK hP 0 rfl rfl 38 (by decide) (htw _ px_w420) (fun _ h9 => h9) ((px_sn (by decide)).trans (px_ss (px_sl (px_sl (px_sl (px_sl hlen)))) (by decide))) px_d47_24 ?_
  refine lv_if_eq (tgt := 158) hx hb px_d47_27 (by decide) (fun _ => ?_) (fun h9 => absurd (by decide +kernel) h9)
  refine lv_aload_n hx hb px_d47_158 rfl (lv_at hl 1 rfl) ?_
  refine va_get (D := (dC, dI)) (ci := 8) (v := .int 0) (C := "MatroidDeskModel") (T := px_T8) (N := 53) hx hb htw px_in8 hown hK hP 0 rfl rfl 41 (by decide) (htw _ px_w424) (fun _ h9 => h9) ((px_sn (by decide)).trans ((px_sn (by decide)).trans ((px_sn (by decide)).trans ((px_sn (by decide)).trans ((px_sn (by decide)).trans (px_ss hlen (by decide))))))) px_d47_159 ?_
  refine lv_if_ne (tgt := 169) hx hb px_d47_162 (by decide) (fun h9 => absurd (by decide +kernel) h9) (fun _ => ?_)
  refine lv_iconst (v := 1) hx hb px_d47_165 (by decide) ?_
  refine lv_goto (tgt := 170) hx hb px_d47_166 (by decide) ?_
  have hP9 := hP.sub (ws' := [(h0, .inr (8, ((((((fs.set 41 (.int 0)).set 40 (.int 0)).set 39 (.int 0)).set 40 (.int 1)).set 38 (.int 0)).set 40 (.int 0))))]) [0] rfl
  have hD9 := hD.sub (ws' := [(h0, .inr (8, ((((((fs.set 41 (.int 0)).set 40 (.int 0)).set 39 (.int 0)).set 40 (.int 1)).set 38 (.int 0)).set 40 (.int 0))))]) [0] (by decide) rfl
  have hK9 := hK.sub (tys' := []) [] rfl
  refine W.widen (k := 0) (n := 0) (Nat.le_of_ble_eq_true rfl) (Nat.le_of_ble_eq_true rfl) ?_
  exact W.zret (v := 1) hx hb hr (by decide +kernel) (fun t ht hW => ⟨⟨1, (), rfl, rfl, by rw [ht]; exact hP9, va_K.moved hW.alike hK9, hD9⟩, hS.F ht⟩) hS.2.2 px_d47_170
set_option maxHeartbeats 4000000 in
set_option maxRecDepth 100000 in
/-- run -/
theorem px_M_run (l : Launch) (dC : Nat → ClassId) (dI : Nat → Nat → Nat) (sz : Nat) (h0 : Nat) (fs : List Value) (hlen : fs.length = 53) (hk_51 : fs[51]? = some (.int 0)) : Met l px_y48 px_s48 ({ frames := 3, cells := 0, slots := 0, locals := 67 }) (va_Pc [.ref h0] (fun U => U.heap.size = sz ∧ va_P (dC, dI) vwCl [(h0, .inr (8, fs))] U.heap ∧ va_K (dC, dI) vwCl [] U ∧ va_D (fun _ => True) [(h0, .inr (8, fs))] ∧ px_N U)) (va_Qi (fun (r : Int32) (_ : Unit) => r = 0) (fun (_ : Unit) (t : State) => va_P (dC, dI) vwCl [] t.heap ∧ va_K (dC, dI) vwCl [] t ∧ va_D (va_A [(h0, .inr (8, fs))] sz) []) (va_A [(h0, .inr (8, fs))] sz)) 0 0 (va_A [(h0, .inr (8, fs))] sz) := by
  refine Met.ofW (cc := prog_15_method_92_code) (maxL := 2) (ret := (some .int)) (by decide) rfl ?_
  intro p e s m args below meth c s₁ B hml hv
  obtain ⟨rfl, hsz, hP, hK, hD0, hN⟩ := hv
  have hx := B.exec
  have hb := B.bytes
  have hr := B.returns
  have htw : ∀ w ∈ px_all, w.before _ s = true := fun w h => atoms_spec (ws := px_s48) B.pre w (List.mem_cons_of_mem _ h)
  have hown : s.vm.findClass "MatroidDeskModel" = some m.cls := findClass_of_methodNamed B.named
  have hlocks := B.notSynchronized
  subst hsz
  have hD := hD0.self (sz := s.heap.size)
  generalize hAe : va_A [(h0, .inr (8, fs))] s.heap.size = A at hD ⊢
  have hA : ∀ q : Nat, s.heap.size ≤ q → A q := fun q h => by rw [← hAe]; exact Or.inr h
  have hS : va_S A s.heap s.heap [] := va_S.rf
  have hP : va_P (dC, dI) vwCl [(h0, .inr (8, fs))] s.heap := hP
  have hl := lv_entry ([.ref h0]) (n := 2) (Nat.le_of_ble_eq_true rfl)
  rw [lg_entry_eq]
  generalize (lg_sl ([.ref h0]) ++ List.replicate (2 - (lg_sl ([.ref h0])).length) Slot.unset).toArray = ls at hl ⊢
  have hl : lv_has ls 2 [(0, .ref h0)] := hl
  refine lv_aload_n hx hb px_d48_0 rfl (lv_at hl 0 rfl) ?_
  refine lv_iconst (v := 0) hx hb px_d48_1 (by decide) ?_
  refine va_put (D := (dC, dI)) (ci := 8) (v := .int 0) (ty := .int) (C := "MatroidDeskModel") (T := px_T8) (N := 53) hx hb htw px_in8 px_ty8 px_tyok8 px_nm8 hown hK hP hD hS 0 rfl rfl 49 (by decide) (htw _ px_w402) (fun _ h9 => h9) rfl (by decide +kernel) rfl rfl (by rw [hlen]; decide) px_d48_2 (fun H locs hP hD hS => ?_)
  have hP : va_P (dC, dI) vwCl [(h0, .inr (8, (fs.set 49 (.int 0))))] H := hP
  have hD : va_D A [(h0, .inr (8, (fs.set 49 (.int 0))))] := hD
  refine lv_iconst (v := 0) hx hb px_d48_5 (by decide) ?_
  refine lv_istore_n (lv' := [(1, .int 0), (0, .ref h0)]) hx hb px_d48_6 rfl hl (by decide) rfl (fun ls hl => ?_)
  refine lv_iload_n hx hb px_d48_7 rfl (lv_at hl 0 rfl) ?_
  refine lv_aload_n hx hb px_d48_8 rfl (lv_at hl 1 rfl) ?_
  refine va_get (D := (dC, dI)) (ci := 8) (v := .int 0) (C := "MatroidDeskModel") (T := px_T8) (N := 53) hx hb htw px_in8 hown hK hP 0 rfl rfl 51 (by decide) (htw _ px_w398) (fun _ h9 => h9) ((px_sn (by decide)).trans hk_51) px_d48_9 ?_
  refine lv_icmp_ge (tgt := 33) hx hb px_d48_12 (by decide) (fun _ => ?_) (fun h9 => absurd (by decide +kernel) h9)
  refine lv_aload_n hx hb px_d48_33 rfl (lv_at hl 1 rfl) ?_
  refine lv_aload_n hx hb px_d48_34 rfl (lv_at hl 1 rfl) ?_
  refine va_get (D := (dC, dI)) (ci := 8) (v := .int 0) (C := "MatroidDeskModel") (T := px_T8) (N := 53) hx hb htw px_in8 hown hK hP 0 rfl rfl 51 (by decide) (htw _ px_w398) (fun _ h9 => h9) ((px_sn (by decide)).trans hk_51) px_d48_35 ?_
  refine va_put (D := (dC, dI)) (ci := 8) (v := .int 0) (ty := .int) (C := "MatroidDeskModel") (T := px_T8) (N := 53) hx hb htw px_in8 px_ty8 px_tyok8 px_nm8 hown hK hP hD hS 0 rfl rfl 37 (by decide) (htw _ px_w413) (fun _ h9 => h9) rfl (by decide +kernel) rfl rfl (by rw [(px_sl hlen)]; decide) px_d48_38 (fun H locs hP hD hS => ?_)
  have hP : va_P (dC, dI) vwCl [(h0, .inr (8, ((fs.set 49 (.int 0)).set 37 (.int 0))))] H := hP
  have hD : va_D A [(h0, .inr (8, ((fs.set 49 (.int 0)).set 37 (.int 0))))] := hD
  refine lv_aload_n hx hb px_d48_41 rfl (lv_at hl 1 rfl) ?_
  refine lv_iconst (v := 0) hx hb px_d48_42 (by decide) ?_
  refine va_put (D := (dC, dI)) (ci := 8) (v := .int 0) (ty := .int) (C := "MatroidDeskModel") (T := px_T8) (N := 53) hx hb htw px_in8 px_ty8 px_tyok8 px_nm8 hown hK hP hD hS 0 rfl rfl 51 (by decide) (htw _ px_w398) (fun _ h9 => h9) rfl (by decide +kernel) rfl rfl (by rw [(px_sl (px_sl hlen))]; decide) px_d48_43 (fun H locs hP hD hS => ?_)
  have hP : va_P (dC, dI) vwCl [(h0, .inr (8, (((fs.set 49 (.int 0)).set 37 (.int 0)).set 51 (.int 0))))] H := hP
  have hD : va_D A [(h0, .inr (8, (((fs.set 49 (.int 0)).set 37 (.int 0)).set 51 (.int 0))))] := hD
  refine lv_aload_n hx hb px_d48_46 rfl (lv_at hl 1 rfl) ?_
  have hPc := hP.sub (ws' := [(h0, .inr (8, (((fs.set 49 (.int 0)).set 37 (.int 0)).set 51 (.int 0))))]) [0] rfl
  have hDc := hD.sub (ws' := [(h0, .inr (8, (((fs.set 49 (.int 0)).set 37 (.int 0)).set 51 (.int 0))))]) [0] (by decide) rfl
  have hKc := hK.sub (tys' := []) [] rfl
  have hFc := va_free (wc := [(h0, .inr (8, (((fs.set 49 (.int 0)).set 37 (.int 0)).set 51 (.int 0))))]) hD hS hA [0] rfl
  refine va_calli (va_runV (As := []) (rest := []) ⟨hx, hb, hml, hown, htw⟩ (px_M_isScript l dC dI H.size h0 (((fs.set 49 (.int 0)).set 37 (.int 0)).set 51 (.int 0)) (px_sl (px_sl (px_sl hlen))) ((px_sn (by decide)).trans (px_ss (px_sl hlen) (by decide)))) (cwV 0 htw (px_gv px_w429 px_w422 px_w423 px_w94 px_g47) rfl rfl rfl (by decide +kernel) ⟨Nat.le_of_ble_eq_true rfl, Nat.le_of_ble_eq_true rfl⟩) ⟨fun a U g mk q => by obtain ⟨q0, q1, qP, qK, qD, qN⟩ := q; exact ⟨q0, q1, qP, va_K.moved (u := U) (U := U.calling g mk a) (Vm.Alike.refl U.vm) qK, qD, qN.same rfl⟩, va_recv hK hP (ci := 8) (q0 := 0) rfl rfl, fun U hU hW => ⟨rfl, by rw [hU], by rw [hU]; exact hPc, va_K.moved hW.alike hKc, hDc.weaken (fun _ _ _ _ => trivial), hN.warm hW⟩⟩ rfl rfl hl.1 rfl (lv_room (Nat.le_of_ble_eq_true rfl)) px_d48_47 ⟨(Nat.le_of_ble_eq_true rfl), (Nat.le_of_ble_eq_true rfl)⟩) hS (fun q _ h => hFc q h) hFc (fun r u t H1 locs ht hvm hw_47 hB hz1 hk1 hS => ?_)
  obtain ⟨hP1, hK1, hD1⟩ := hB
  rw [ht] at hP1
  have hK1 := va_K.moved hvm.symm hK1
  obtain ⟨hP, hD⟩ := va_join (wr := []) (w1 := [(h0, .inr (8, (((((((((fs.set 49 (.int 0)).set 37 (.int 0)).set 51 (.int 0)).set 41 (.int 0)).set 40 (.int 0)).set 39 (.int 0)).set 40 (.int 1)).set 38 (.int 0)).set 40 (.int 0))))]) hP hD [0] [] rfl rfl (by decide) (by decide) hk1 hFc hP1 hD1
  generalize H1 = H at hP hS ⊢
  have hP : va_P (dC, dI) vwCl [(h0, .inr (8, (((((((((fs.set 49 (.int 0)).set 37 (.int 0)).set 51 (.int 0)).set 41 (.int 0)).set 40 (.int 0)).set 39 (.int 0)).set 40 (.int 1)).set 38 (.int 0)).set 40 (.int 0))))] H := hP
  have hD : va_D A [(h0, .inr (8, (((((((((fs.set 49 (.int 0)).set 37 (.int 0)).set 51 (.int 0)).set 41 (.int 0)).set 40 (.int 0)).set 39 (.int 0)).set 40 (.int 1)).set 38 (.int 0)).set 40 (.int 0))))] := hD
  subst hw_47
  refine lv_if_ne (tgt := 55) hx hb px_d48_50 (by decide) (fun _ => ?_) (fun h9 => absurd h9 (by decide +kernel))
  refine lv_aload_n hx hb px_d48_55 rfl (lv_at hl 1 rfl) ?_
  refine lv_iconst (v := 0) hx hb px_d48_56 (by decide) ?_
  refine va_put (D := (dC, dI)) (ci := 8) (v := .int 0) (ty := .int) (C := "MatroidDeskModel") (T := px_T8) (N := 53) hx hb htw px_in8 px_ty8 px_tyok8 px_nm8 hown hK hP hD hS 0 rfl rfl 47 (by decide) (htw _ px_w430) (fun _ h9 => h9) rfl (by decide +kernel) rfl rfl (by rw [(px_sl (px_sl (px_sl (px_sl (px_sl (px_sl (px_sl (px_sl (px_sl hlen)))))))))]; decide) px_d48_57 (fun H locs hP hD hS => ?_)
  have hP : va_P (dC, dI) vwCl [(h0, .inr (8, ((((((((((fs.set 49 (.int 0)).set 37 (.int 0)).set 51 (.int 0)).set 41 (.int 0)).set 40 (.int 0)).set 39 (.int 0)).set 40 (.int 1)).set 38 (.int 0)).set 40 (.int 0)).set 47 (.int 0))))] H := hP
  have hD : va_D A [(h0, .inr (8, ((((((((((fs.set 49 (.int 0)).set 37 (.int 0)).set 51 (.int 0)).set 41 (.int 0)).set 40 (.int 0)).set 39 (.int 0)).set 40 (.int 1)).set 38 (.int 0)).set 40 (.int 0)).set 47 (.int 0))))] := hD
  refine lv_aload_n hx hb px_d48_60 rfl (lv_at hl 1 rfl) ?_
  refine lv_iconst (v := 0) hx hb px_d48_61 (by decide) ?_
  refine va_put (D := (dC, dI)) (ci := 8) (v := .int 0) (ty := .int) (C := "MatroidDeskModel") (T := px_T8) (N := 53) hx hb htw px_in8 px_ty8 px_tyok8 px_nm8 hown hK hP hD hS 0 rfl rfl 43 (by decide) (htw _ px_w431) (fun _ h9 => h9) rfl (by decide +kernel) rfl rfl (by rw [(px_sl (px_sl (px_sl (px_sl (px_sl (px_sl (px_sl (px_sl (px_sl (px_sl hlen))))))))))]; decide) px_d48_62 (fun H locs hP hD hS => ?_)
  have hP : va_P (dC, dI) vwCl [(h0, .inr (8, (((((((((((fs.set 49 (.int 0)).set 37 (.int 0)).set 51 (.int 0)).set 41 (.int 0)).set 40 (.int 0)).set 39 (.int 0)).set 40 (.int 1)).set 38 (.int 0)).set 40 (.int 0)).set 47 (.int 0)).set 43 (.int 0))))] H := hP
  have hD : va_D A [(h0, .inr (8, (((((((((((fs.set 49 (.int 0)).set 37 (.int 0)).set 51 (.int 0)).set 41 (.int 0)).set 40 (.int 0)).set 39 (.int 0)).set 40 (.int 1)).set 38 (.int 0)).set 40 (.int 0)).set 47 (.int 0)).set 43 (.int 0))))] := hD
  refine lv_iconst (v := 0) hx hb px_d48_65 (by decide) ?_
  refine lv_istore_n (lv' := [(1, .int 0), (0, .ref h0)]) hx hb px_d48_66 rfl hl (by decide) rfl (fun ls hl => ?_)
  refine lv_aload_n hx hb px_d48_67 rfl (lv_at hl 1 rfl) ?_
  refine lv_iconst (v := 0) hx hb px_d48_68 (by decide) ?_
  refine va_put (D := (dC, dI)) (ci := 8) (v := .int 0) (ty := .int) (C := "MatroidDeskModel") (T := px_T8) (N := 53) hx hb htw px_in8 px_ty8 px_tyok8 px_nm8 hown hK hP hD hS 0 rfl rfl 40 (by decide) (htw _ px_w417) (fun _ h9 => h9) rfl (by decide +kernel) rfl rfl (by rw [(px_sl (px_sl (px_sl (px_sl (px_sl (px_sl (px_sl (px_sl (px_sl (px_sl (px_sl hlen)))))))))))]; decide) px_d48_69 (fun H locs hP hD hS => ?_)
  have hP : va_P (dC, dI) vwCl [(h0, .inr (8, ((((((((((((fs.set 49 (.int 0)).set 37 (.int 0)).set 51 (.int 0)).set 41 (.int 0)).set 40 (.int 0)).set 39 (.int 0)).set 40 (.int 1)).set 38 (.int 0)).set 40 (.int 0)).set 47 (.int 0)).set 43 (.int 0)).set 40 (.int 0))))] H := hP
  have hD : va_D A [(h0, .inr (8, ((((((((((((fs.set 49 (.int 0)).set 37 (.int 0)).set 51 (.int 0)).set 41 (.int 0)).set 40 (.int 0)).set 39 (.int 0)).set 40 (.int 1)).set 38 (.int 0)).set 40 (.int 0)).set 47 (.int 0)).set 43 (.int 0)).set 40 (.int 0))))] := hD
  refine lv_aload_n hx hb px_d48_72 rfl (lv_at hl 1 rfl) ?_
  have hPc := hP.sub (ws' := [(h0, .inr (8, ((((((((((((fs.set 49 (.int 0)).set 37 (.int 0)).set 51 (.int 0)).set 41 (.int 0)).set 40 (.int 0)).set 39 (.int 0)).set 40 (.int 1)).set 38 (.int 0)).set 40 (.int 0)).set 47 (.int 0)).set 43 (.int 0)).set 40 (.int 0))))]) [0] rfl
  have hDc := hD.sub (ws' := [(h0, .inr (8, ((((((((((((fs.set 49 (.int 0)).set 37 (.int 0)).set 51 (.int 0)).set 41 (.int 0)).set 40 (.int 0)).set 39 (.int 0)).set 40 (.int 1)).set 38 (.int 0)).set 40 (.int 0)).set 47 (.int 0)).set 43 (.int 0)).set 40 (.int 0))))]) [0] (by decide) rfl
  have hKc := hK.sub (tys' := []) [] rfl
  have hFc := va_free (wc := [(h0, .inr (8, ((((((((((((fs.set 49 (.int 0)).set 37 (.int 0)).set 51 (.int 0)).set 41 (.int 0)).set 40 (.int 0)).set 39 (.int 0)).set 40 (.int 1)).set 38 (.int 0)).set 40 (.int 0)).set 47 (.int 0)).set 43 (.int 0)).set 40 (.int 0))))]) hD hS hA [0] rfl
  refine va_callv (va_runV (As := []) (rest := []) ⟨hx, hb, hml, hown, htw⟩ (px_M_next l dC dI H.size h0 ((((((((((((fs.set 49 (.int 0)).set 37 (.int 0)).set 51 (.int 0)).set 41 (.int 0)).set 40 (.int 0)).set 39 (.int 0)).set 40 (.int 1)).set 38 (.int 0)).set 40 (.int 0)).set 47 (.int 0)).set 43 (.int 0)).set 40 (.int 0)) (px_sl (px_sl (px_sl (px_sl (px_sl (px_sl (px_sl (px_sl (px_sl (px_sl (px_sl (px_sl hlen)))))))))))) ((px_sn (by decide)).trans ((px_sn (by decide)).trans ((px_sn (by decide)).trans ((px_sn (by decide)).trans ((px_sn (by decide)).trans ((px_sn (by decide)).trans ((px_sn (by decide)).trans ((px_sn (by decide)).trans ((px_sn (by decide)).trans ((px_sn (by decide)).trans (px_ss (px_sl hlen) (by decide)))))))))))) (px_ss (px_sl (px_sl (px_sl (px_sl (px_sl (px_sl (px_sl (px_sl (px_sl (px_sl (px_sl hlen))))))))))) (by decide))) (cwV 0 htw (px_gv px_w425 px_w415 px_w416 px_w94 px_g46) rfl rfl rfl (by decide +kernel) ⟨Nat.le_of_ble_eq_true rfl, Nat.le_of_ble_eq_true rfl⟩) ⟨fun a U g mk q => by obtain ⟨q0, q1, qP, qK, qD, qN⟩ := q; exact ⟨q0, q1, qP, va_K.moved (u := U) (U := U.calling g mk a) (Vm.Alike.refl U.vm) qK, qD, qN.same rfl⟩, va_recv hK hP (ci := 8) (q0 := 0) rfl rfl, fun U hU hW => ⟨rfl, by rw [hU], by rw [hU]; exact hPc, va_K.moved hW.alike hKc, hDc.weaken (fun _ _ _ _ => trivial), hN.warm hW⟩⟩ rfl rfl hl.1 rfl (lv_room (Nat.le_of_ble_eq_true rfl)) px_d48_73 ⟨(Nat.le_of_ble_eq_true rfl), (Nat.le_of_ble_eq_true rfl)⟩) hS (fun q _ h => hFc q h) hFc (fun u t H1 locs ht hvm hw_73 hB hz1 hk1 hS => ?_)
  obtain ⟨hP1, hK1, hD1⟩ := hB
  rw [ht] at hP1
  have hK1 := va_K.moved hvm.symm hK1
  obtain ⟨hP, hD⟩ := va_join (wr := []) (w1 := [(h0, .inr (8, ((((((((((((((((fs.set 49 (.int 0)).set 37 (.int 0)).set 51 (.int 0)).set 41 (.int 0)).set 40 (.int 0)).set 39 (.int 0)).set 40 (.int 1)).set 38 (.int 0)).set 40 (.int 0)).set 47 (.int 0)).set 43 (.int 0)).set 40 (.int 0)).set 39 (.int 0)).set 40 (.int 1)).set 38 (.int 0)).set 40 (.int 0))))]) hP hD [0] [] rfl rfl (by decide) (by decide) hk1 hFc hP1 hD1
  generalize H1 = H at hP hS ⊢
  have hP : va_P (dC, dI) vwCl [(h0, .inr (8, ((((((((((((((((fs.set 49 (.int 0)).set 37 (.int 0)).set 51 (.int 0)).set 41 (.int 0)).set 40 (.int 0)).set 39 (.int 0)).set 40 (.int 1)).set 38 (.int 0)).set 40 (.int 0)).set 47 (.int 0)).set 43 (.int 0)).set 40 (.int 0)).set 39 (.int 0)).set 40 (.int 1)).set 38 (.int 0)).set 40 (.int 0))))] H := hP
  have hD : va_D A [(h0, .inr (8, ((((((((((((((((fs.set 49 (.int 0)).set 37 (.int 0)).set 51 (.int 0)).set 41 (.int 0)).set 40 (.int 0)).set 39 (.int 0)).set 40 (.int 1)).set 38 (.int 0)).set 40 (.int 0)).set 47 (.int 0)).set 43 (.int 0)).set 40 (.int 0)).set 39 (.int 0)).set 40 (.int 1)).set 38 (.int 0)).set 40 (.int 0))))] := hD
  refine lv_aload_n hx hb px_d48_76 rfl (lv_at hl 1 rfl) ?_
  refine va_get (D := (dC, dI)) (ci := 8) (v := .int 0) (C := "MatroidDeskModel") (T := px_T8) (N := 53) hx hb htw px_in8 hown hK hP 0 rfl rfl 38 (by decide) (htw _ px_w420) (fun _ h9 => h9) ((px_sn (by decide)).trans (px_ss (px_sl (px_sl (px_sl (px_sl (px_sl (px_sl (px_sl (px_sl (px_sl (px_sl (px_sl (px_sl (px_sl (px_sl hlen)))))))))))))) (by decide))) px_d48_77 ?_
  refine lv_if_eq (tgt := 111) hx hb px_d48_80 (by decide) (fun _ => ?_) (fun h9 => absurd (by decide +kernel) h9)
  refine lv_aload_n hx hb px_d48_111 rfl (lv_at hl 1 rfl) ?_
  refine lv_aload_n hx hb px_d48_112 rfl (lv_at hl 1 rfl) ?_
  refine va_get (D := (dC, dI)) (ci := 8) (v := .int 0) (C := "MatroidDeskModel") (T := px_T8) (N := 53) hx hb htw px_in8 hown hK hP 0 rfl rfl 43 (by decide) (htw _ px_w431) (fun _ h9 => h9) ((px_sn (by decide)).trans ((px_sn (by decide)).trans ((px_sn (by decide)).trans ((px_sn (by decide)).trans ((px_sn (by decide)).trans (px_ss (px_sl (px_sl (px_sl (px_sl (px_sl (px_sl (px_sl (px_sl (px_sl (px_sl hlen)))))))))) (by decide))))))) px_d48_113 ?_
  refine va_put (D := (dC, dI)) (ci := 8) (v := .int 0) (ty := .int) (C := "MatroidDeskModel") (T := px_T8) (N := 53) hx hb htw px_in8 px_ty8 px_tyok8 px_nm8 hown hK hP hD hS 0 rfl rfl 52 (by decide) (htw _ px_w432) (fun _ h9 => h9) rfl (by decide +kernel) rfl rfl (by rw [(px_sl (px_sl (px_sl (px_sl (px_sl (px_sl (px_sl (px_sl (px_sl (px_sl (px_sl (px_sl (px_sl (px_sl (px_sl (px_sl hlen))))))))))))))))]; decide) px_d48_116 (fun H locs hP hD hS => ?_)
  have hP : va_P (dC, dI) vwCl [(h0, .inr (8, (((((((((((((((((fs.set 49 (.int 0)).set 37 (.int 0)).set 51 (.int 0)).set 41 (.int 0)).set 40 (.int 0)).set 39 (.int 0)).set 40 (.int 1)).set 38 (.int 0)).set 40 (.int 0)).set 47 (.int 0)).set 43 (.int 0)).set 40 (.int 0)).set 39 (.int 0)).set 40 (.int 1)).set 38 (.int 0)).set 40 (.int 0)).set 52 (.int 0))))] H := hP
  have hD : va_D A [(h0, .inr (8, (((((((((((((((((fs.set 49 (.int 0)).set 37 (.int 0)).set 51 (.int 0)).set 41 (.int 0)).set 40 (.int 0)).set 39 (.int 0)).set 40 (.int 1)).set 38 (.int 0)).set 40 (.int 0)).set 47 (.int 0)).set 43 (.int 0)).set 40 (.int 0)).set 39 (.int 0)).set 40 (.int 1)).set 38 (.int 0)).set 40 (.int 0)).set 52 (.int 0))))] := hD
  refine lv_iload_n hx hb px_d48_119 rfl (lv_at hl 0 rfl) ?_
  have hP9 := hP.sub (ws' := []) [] rfl
  have hD9 := hD.sub (ws' := []) [] (by decide) rfl
  have hK9 := hK.sub (tys' := []) [] rfl
  refine W.widen (k := 0) (n := 0) (Nat.le_of_ble_eq_true rfl) (Nat.le_of_ble_eq_true rfl) ?_
  exact W.iret (v := 0) hx hb hr (fun t ht hW => ⟨⟨0, (), rfl, rfl, by rw [ht]; exact hP9, va_K.moved hW.alike hK9, hD9⟩, hS.F ht⟩) hS.2.2 px_d48_120
