set_option maxHeartbeats 4000000 in
set_option maxRecDepth 100000 in
/-- takeInt(x) -/
theorem px_takeInt (l : Launch) (dC : Nat → ClassId) (dI : Nat → Nat → Nat) (sz : Nat) (h0 : Nat) (qb : Nat) (qm : Nat) (qe : Nat) (qo : Nat) (qi : Nat) (qw : Nat) (qt : Nat) (qs : Nat) (qp : Nat) (cb : ClassId) (k : Nat) (f : Nat → Int32) (x : Int32) (hk : k + 4 ≤ 512) : Met l px_y11 px_s11 ({ frames := 0, cells := 0, slots := 0, locals := 0 }) (va_Pc [.ref h0, .int x] (fun U => U.heap.size = sz ∧ va_P (dC, dI) vwCl [(h0, .inr (0, [.ref qb, .int (nI k), .int (-1), .int 0, .int 0, .null, .ref qm, .ref qe, .ref qo, .ref qi, .ref qw, .ref qt, .ref qs, .ref qp])), (qb, .inl (cb, 512, .inl f))] U.heap ∧ va_K (dC, dI) vwCl [(cb, .byte)] U ∧ va_D (fun _ => True) [(h0, .inr (0, [.ref qb, .int (nI k), .int (-1), .int 0, .int 0, .null, .ref qm, .ref qe, .ref qo, .ref qi, .ref qw, .ref qt, .ref qs, .ref qp])), (qb, .inl (cb, 512, .inl f))] ∧ px_N U)) (va_Qv (fun (_ : Unit) => True) (fun (_ : Unit) (t : State) => ∃ (f1 : Nat → Int32), va_P (dC, dI) vwCl [(h0, .inr (0, [.ref qb, .int (nI (k + 4)), .int (-1), .int 0, .int 0, .null, .ref qm, .ref qe, .ref qo, .ref qi, .ref qw, .ref qt, .ref qs, .ref qp])), (qb, .inl (cb, 512, .inl f1))] t.heap ∧ va_K (dC, dI) vwCl [(cb, .byte)] t ∧ va_D (va_A [(h0, .inr (0, [.ref qb, .int (nI k), .int (-1), .int 0, .int 0, .null, .ref qm, .ref qe, .ref qo, .ref qi, .ref qw, .ref qt, .ref qs, .ref qp])), (qb, .inl (cb, 512, .inl f))] sz) [(h0, .inr (0, [.ref qb, .int (nI (k + 4)), .int (-1), .int 0, .int 0, .null, .ref qm, .ref qe, .ref qo, .ref qi, .ref qw, .ref qt, .ref qs, .ref qp])), (qb, .inl (cb, 512, .inl f1))]) (va_A [(h0, .inr (0, [.ref qb, .int (nI k), .int (-1), .int 0, .int 0, .null, .ref qm, .ref qe, .ref qo, .ref qi, .ref qw, .ref qt, .ref qs, .ref qp])), (qb, .inl (cb, 512, .inl f))] sz)) 0 0 (va_A [(h0, .inr (0, [.ref qb, .int (nI k), .int (-1), .int 0, .int 0, .null, .ref qm, .ref qe, .ref qo, .ref qi, .ref qw, .ref qt, .ref qs, .ref qp])), (qb, .inl (cb, 512, .inl f))] sz) := by
  refine Met.ofW (cc := prog_1_method_26_code) (maxL := 3) (ret := none) (by decide) rfl ?_
  intro p e s m args below meth c s₁ B hml hv
  obtain ⟨rfl, hsz, hP, hK, hD0, hN⟩ := hv
  have hx := B.exec
  have hb := B.bytes
  have hr := B.returns
  have htw : ∀ w ∈ px_all, w.before _ s = true := fun w h => atoms_spec (ws := px_s11) B.pre w (List.mem_cons_of_mem _ h)
  have hown : s.vm.findClass "MatroidDesk" = some m.cls := findClass_of_methodNamed B.named
  have hlocks := B.notSynchronized
  subst hsz
  have hD := hD0.self (sz := s.heap.size)
  generalize hAe : va_A [(h0, .inr (0, [.ref qb, .int (nI k), .int (-1), .int 0, .int 0, .null, .ref qm, .ref qe, .ref qo, .ref qi, .ref qw, .ref qt, .ref qs, .ref qp])), (qb, .inl (cb, 512, .inl f))] s.heap.size = A at hD ⊢
  have hA : ∀ q : Nat, s.heap.size ≤ q → A q := fun q h => by rw [← hAe]; exact Or.inr h
  have hS : va_S A s.heap s.heap [] := va_S.rf
  have hP : va_P (dC, dI) vwCl [(h0, .inr (0, [.ref qb, .int (nI k), .int (-1), .int 0, .int 0, .null, .ref qm, .ref qe, .ref qo, .ref qi, .ref qw, .ref qt, .ref qs, .ref qp])), (qb, .inl (cb, 512, .inl f))] s.heap := hP
  have hl := lv_entry ([.ref h0, .int x]) (n := 3) (Nat.le_of_ble_eq_true rfl)
  rw [lg_entry_eq]
  generalize (lg_sl ([.ref h0, .int x]) ++ List.replicate (3 - (lg_sl ([.ref h0, .int x])).length) Slot.unset).toArray = ls at hl ⊢
  have hl : lv_has ls 3 [(0, .ref h0), (1, .int x)] := hl
  refine lv_bipush (v := 24) hx hb px_d11_0 (by decide) ?_
  refine lv_istore_n (lv' := [(2, .int 24), (0, .ref h0), (1, .int x)]) hx hb px_d11_2 rfl hl (by decide) rfl (fun ls hl => ?_)
  refine lv_iload_n hx hb px_d11_3 rfl (lv_at hl 0 rfl) ?_
  refine lv_if_lt (tgt := 36) hx hb px_d11_4 (by decide) (fun h9 => absurd h9 (by decide +kernel)) (fun _ => ?_)
  refine lv_aload_n hx hb px_d11_7 rfl (lv_at hl 1 rfl) ?_
  refine va_get (D := (dC, dI)) (ci := 0) (v := .ref qb) (C := "MatroidDesk") (T := px_T0) (N := 14) hx hb htw px_in0 hown hK hP 0 rfl rfl 0 (by decide) (htw _ px_w209) (fun _ h9 => h9) rfl px_d11_8 ?_
  refine lv_aload_n hx hb px_d11_11 rfl (lv_at hl 1 rfl) ?_
  refine va_get (D := (dC, dI)) (ci := 0) (v := .int (nI k)) (C := "MatroidDesk") (T := px_T0) (N := 14) hx hb htw px_in0 hown hK hP 0 rfl rfl 1 (by decide) (htw _ px_w210) (fun _ h9 => h9) rfl px_d11_12 ?_
  refine lv_iload_n hx hb px_d11_15 rfl (lv_at hl 2 rfl) ?_
  refine lv_iload_n hx hb px_d11_16 rfl (lv_at hl 0 rfl) ?_
  refine lv_ishr hx hb px_d11_17 ?_
  refine lv_i2b (v := (x >>> (24 &&& 31)).toInt8.toInt32) hx hb px_d11_18 rfl ?_
  refine va_bast hx hb hK hP hD hS 1 0 rfl rfl (vp_in_nI (show k < 512 by omega) (by decide)) px_d11_19 (fun H locs hP hD hS => ?_)
  have hP : va_P (dC, dI) vwCl [(h0, .inr (0, [.ref qb, .int (nI k), .int (-1), .int 0, .int 0, .null, .ref qm, .ref qe, .ref qo, .ref qi, .ref qw, .ref qt, .ref qs, .ref qp])), (qb, .inl (cb, 512, .inl (upd f (Int32.toNatClampNeg (nI k)) (vp_nar .byte ((x >>> (24 &&& 31)).toInt8.toInt32)))))] H := hP
  have hD : va_D A [(h0, .inr (0, [.ref qb, .int (nI k), .int (-1), .int 0, .int 0, .null, .ref qm, .ref qe, .ref qo, .ref qi, .ref qw, .ref qt, .ref qs, .ref qp])), (qb, .inl (cb, 512, .inl (upd f (Int32.toNatClampNeg (nI k)) (vp_nar .byte ((x >>> (24 &&& 31)).toInt8.toInt32)))))] := hD
  refine lv_aload_n hx hb px_d11_20 rfl (lv_at hl 1 rfl) ?_
  refine lv_dup hx hb px_d11_21 rfl ?_
  refine va_get (D := (dC, dI)) (ci := 0) (v := .int (nI k)) (C := "MatroidDesk") (T := px_T0) (N := 14) hx hb htw px_in0 hown hK hP 0 rfl rfl 1 (by decide) (htw _ px_w210) (fun _ h9 => h9) rfl px_d11_22 ?_
  refine lv_iconst (v := 1) hx hb px_d11_25 (by decide) ?_
  refine lv_iadd hx hb px_d11_26 ?_
  refine lv_topi (nm_r (e' := (nI (k + 1))) (nI_1 k) ?_)
  refine va_put (D := (dC, dI)) (ci := 0) (v := .int (nI (k + 1))) (ty := .int) (C := "MatroidDesk") (T := px_T0) (N := 14) hx hb htw px_in0 px_ty0 px_tyok0 px_nm0 hown hK hP hD hS 0 rfl rfl 1 (by decide) (htw _ px_w210) (fun _ h9 => h9) rfl (by decide +kernel) rfl rfl (Nat.le_of_ble_eq_true rfl) px_d11_27 (fun H locs hP hD hS => ?_)
  have hP : va_P (dC, dI) vwCl [(h0, .inr (0, [.ref qb, .int (nI (k + 1)), .int (-1), .int 0, .int 0, .null, .ref qm, .ref qe, .ref qo, .ref qi, .ref qw, .ref qt, .ref qs, .ref qp])), (qb, .inl (cb, 512, .inl (upd f (Int32.toNatClampNeg (nI k)) (vp_nar .byte ((x >>> (24 &&& 31)).toInt8.toInt32)))))] H := hP
  have hD : va_D A [(h0, .inr (0, [.ref qb, .int (nI (k + 1)), .int (-1), .int 0, .int 0, .null, .ref qm, .ref qe, .ref qo, .ref qi, .ref qw, .ref qt, .ref qs, .ref qp])), (qb, .inl (cb, 512, .inl (upd f (Int32.toNatClampNeg (nI k)) (vp_nar .byte ((x >>> (24 &&& 31)).toInt8.toInt32)))))] := hD
  refine lv_iinc (v := 16) (lv' := [(2, .int 16), (0, .ref h0), (1, .int x)]) hx hb px_d11_30 hl (k := 0) rfl (by decide +kernel) (by decide) rfl (fun ls hl => ?_)
  refine lv_goto (tgt := 3) hx hb px_d11_33 (by decide) ?_
  refine lv_iload_n hx hb px_d11_3 rfl (lv_at hl 0 rfl) ?_
  refine lv_if_lt (tgt := 36) hx hb px_d11_4 (by decide) (fun h9 => absurd h9 (by decide +kernel)) (fun _ => ?_)
  refine lv_aload_n hx hb px_d11_7 rfl (lv_at hl 1 rfl) ?_
  refine va_get (D := (dC, dI)) (ci := 0) (v := .ref qb) (C := "MatroidDesk") (T := px_T0) (N := 14) hx hb htw px_in0 hown hK hP 0 rfl rfl 0 (by decide) (htw _ px_w209) (fun _ h9 => h9) rfl px_d11_8 ?_
  refine lv_aload_n hx hb px_d11_11 rfl (lv_at hl 1 rfl) ?_
  refine va_get (D := (dC, dI)) (ci := 0) (v := .int (nI (k + 1))) (C := "MatroidDesk") (T := px_T0) (N := 14) hx hb htw px_in0 hown hK hP 0 rfl rfl 1 (by decide) (htw _ px_w210) (fun _ h9 => h9) rfl px_d11_12 ?_
  refine lv_iload_n hx hb px_d11_15 rfl (lv_at hl 2 rfl) ?_
  refine lv_iload_n hx hb px_d11_16 rfl (lv_at hl 0 rfl) ?_
  refine lv_ishr hx hb px_d11_17 ?_
  refine lv_i2b (v := (x >>> (16 &&& 31)).toInt8.toInt32) hx hb px_d11_18 rfl ?_
  refine va_bast hx hb hK hP hD hS 1 0 rfl rfl (vp_in_nI (show k + 1 < 512 by omega) (by decide)) px_d11_19 (fun H locs hP hD hS => ?_)
  have hP : va_P (dC, dI) vwCl [(h0, .inr (0, [.ref qb, .int (nI (k + 1)), .int (-1), .int 0, .int 0, .null, .ref qm, .ref qe, .ref qo, .ref qi, .ref qw, .ref qt, .ref qs, .ref qp])), (qb, .inl (cb, 512, .inl (upd (upd f (Int32.toNatClampNeg (nI k)) (vp_nar .byte ((x >>> (24 &&& 31)).toInt8.toInt32))) (Int32.toNatClampNeg (nI (k + 1))) (vp_nar .byte ((x >>> (16 &&& 31)).toInt8.toInt32)))))] H := hP
  have hD : va_D A [(h0, .inr (0, [.ref qb, .int (nI (k + 1)), .int (-1), .int 0, .int 0, .null, .ref qm, .ref qe, .ref qo, .ref qi, .ref qw, .ref qt, .ref qs, .ref qp])), (qb, .inl (cb, 512, .inl (upd (upd f (Int32.toNatClampNeg (nI k)) (vp_nar .byte ((x >>> (24 &&& 31)).toInt8.toInt32))) (Int32.toNatClampNeg (nI (k + 1))) (vp_nar .byte ((x >>> (16 &&& 31)).toInt8.toInt32)))))] := hD
  refine lv_aload_n hx hb px_d11_20 rfl (lv_at hl 1 rfl) ?_
  refine lv_dup hx hb px_d11_21 rfl ?_
  refine va_get (D := (dC, dI)) (ci := 0) (v := .int (nI (k + 1))) (C := "MatroidDesk") (T := px_T0) (N := 14) hx hb htw px_in0 hown hK hP 0 rfl rfl 1 (by decide) (htw _ px_w210) (fun _ h9 => h9) rfl px_d11_22 ?_
  refine lv_iconst (v := 1) hx hb px_d11_25 (by decide) ?_
  refine lv_iadd hx hb px_d11_26 ?_
  refine lv_topi (nm_r (e' := (nI (k + 2))) (nI_1 (k + 1)) ?_)
  refine va_put (D := (dC, dI)) (ci := 0) (v := .int (nI (k + 2))) (ty := .int) (C := "MatroidDesk") (T := px_T0) (N := 14) hx hb htw px_in0 px_ty0 px_tyok0 px_nm0 hown hK hP hD hS 0 rfl rfl 1 (by decide) (htw _ px_w210) (fun _ h9 => h9) rfl (by decide +kernel) rfl rfl (Nat.le_of_ble_eq_true rfl) px_d11_27 (fun H locs hP hD hS => ?_)
  have hP : va_P (dC, dI) vwCl [(h0, .inr (0, [.ref qb, .int (nI (k + 2)), .int (-1), .int 0, .int 0, .null, .ref qm, .ref qe, .ref qo, .ref qi, .ref qw, .ref qt, .ref qs, .ref qp])), (qb, .inl (cb, 512, .inl (upd (upd f (Int32.toNatClampNeg (nI k)) (vp_nar .byte ((x >>> (24 &&& 31)).toInt8.toInt32))) (Int32.toNatClampNeg (nI (k + 1))) (vp_nar .byte ((x >>> (16 &&& 31)).toInt8.toInt32)))))] H := hP
  have hD : va_D A [(h0, .inr (0, [.ref qb, .int (nI (k + 2)), .int (-1), .int 0, .int 0, .null, .ref qm, .ref qe, .ref qo, .ref qi, .ref qw, .ref qt, .ref qs, .ref qp])), (qb, .inl (cb, 512, .inl (upd (upd f (Int32.toNatClampNeg (nI k)) (vp_nar .byte ((x >>> (24 &&& 31)).toInt8.toInt32))) (Int32.toNatClampNeg (nI (k + 1))) (vp_nar .byte ((x >>> (16 &&& 31)).toInt8.toInt32)))))] := hD
  refine lv_iinc (v := 8) (lv' := [(2, .int 8), (0, .ref h0), (1, .int x)]) hx hb px_d11_30 hl (k := 0) rfl (by decide +kernel) (by decide) rfl (fun ls hl => ?_)
  refine lv_goto (tgt := 3) hx hb px_d11_33 (by decide) ?_
  refine lv_iload_n hx hb px_d11_3 rfl (lv_at hl 0 rfl) ?_
  refine lv_if_lt (tgt := 36) hx hb px_d11_4 (by decide) (fun h9 => absurd h9 (by decide +kernel)) (fun _ => ?_)
  refine lv_aload_n hx hb px_d11_7 rfl (lv_at hl 1 rfl) ?_
  refine va_get (D := (dC, dI)) (ci := 0) (v := .ref qb) (C := "MatroidDesk") (T := px_T0) (N := 14) hx hb htw px_in0 hown hK hP 0 rfl rfl 0 (by decide) (htw _ px_w209) (fun _ h9 => h9) rfl px_d11_8 ?_
  refine lv_aload_n hx hb px_d11_11 rfl (lv_at hl 1 rfl) ?_
  refine va_get (D := (dC, dI)) (ci := 0) (v := .int (nI (k + 2))) (C := "MatroidDesk") (T := px_T0) (N := 14) hx hb htw px_in0 hown hK hP 0 rfl rfl 1 (by decide) (htw _ px_w210) (fun _ h9 => h9) rfl px_d11_12 ?_
  refine lv_iload_n hx hb px_d11_15 rfl (lv_at hl 2 rfl) ?_
  refine lv_iload_n hx hb px_d11_16 rfl (lv_at hl 0 rfl) ?_
  refine lv_ishr hx hb px_d11_17 ?_
  refine lv_i2b (v := (x >>> (8 &&& 31)).toInt8.toInt32) hx hb px_d11_18 rfl ?_
  refine va_bast hx hb hK hP hD hS 1 0 rfl rfl (vp_in_nI (show k + 2 < 512 by omega) (by decide)) px_d11_19 (fun H locs hP hD hS => ?_)
  have hP : va_P (dC, dI) vwCl [(h0, .inr (0, [.ref qb, .int (nI (k + 2)), .int (-1), .int 0, .int 0, .null, .ref qm, .ref qe, .ref qo, .ref qi, .ref qw, .ref qt, .ref qs, .ref qp])), (qb, .inl (cb, 512, .inl (upd (upd (upd f (Int32.toNatClampNeg (nI k)) (vp_nar .byte ((x >>> (24 &&& 31)).toInt8.toInt32))) (Int32.toNatClampNeg (nI (k + 1))) (vp_nar .byte ((x >>> (16 &&& 31)).toInt8.toInt32))) (Int32.toNatClampNeg (nI (k + 2))) (vp_nar .byte ((x >>> (8 &&& 31)).toInt8.toInt32)))))] H := hP
  have hD : va_D A [(h0, .inr (0, [.ref qb, .int (nI (k + 2)), .int (-1), .int 0, .int 0, .null, .ref qm, .ref qe, .ref qo, .ref qi, .ref qw, .ref qt, .ref qs, .ref qp])), (qb, .inl (cb, 512, .inl (upd (upd (upd f (Int32.toNatClampNeg (nI k)) (vp_nar .byte ((x >>> (24 &&& 31)).toInt8.toInt32))) (Int32.toNatClampNeg (nI (k + 1))) (vp_nar .byte ((x >>> (16 &&& 31)).toInt8.toInt32))) (Int32.toNatClampNeg (nI (k + 2))) (vp_nar .byte ((x >>> (8 &&& 31)).toInt8.toInt32)))))] := hD
  refine lv_aload_n hx hb px_d11_20 rfl (lv_at hl 1 rfl) ?_
  refine lv_dup hx hb px_d11_21 rfl ?_
  refine va_get (D := (dC, dI)) (ci := 0) (v := .int (nI (k + 2))) (C := "MatroidDesk") (T := px_T0) (N := 14) hx hb htw px_in0 hown hK hP 0 rfl rfl 1 (by decide) (htw _ px_w210) (fun _ h9 => h9) rfl px_d11_22 ?_
  refine lv_iconst (v := 1) hx hb px_d11_25 (by decide) ?_
  refine lv_iadd hx hb px_d11_26 ?_
  refine lv_topi (nm_r (e' := (nI (k + 3))) (nI_1 (k + 2)) ?_)
  refine va_put (D := (dC, dI)) (ci := 0) (v := .int (nI (k + 3))) (ty := .int) (C := "MatroidDesk") (T := px_T0) (N := 14) hx hb htw px_in0 px_ty0 px_tyok0 px_nm0 hown hK hP hD hS 0 rfl rfl 1 (by decide) (htw _ px_w210) (fun _ h9 => h9) rfl (by decide +kernel) rfl rfl (Nat.le_of_ble_eq_true rfl) px_d11_27 (fun H locs hP hD hS => ?_)
  have hP : va_P (dC, dI) vwCl [(h0, .inr (0, [.ref qb, .int (nI (k + 3)), .int (-1), .int 0, .int 0, .null, .ref qm, .ref qe, .ref qo, .ref qi, .ref qw, .ref qt, .ref qs, .ref qp])), (qb, .inl (cb, 512, .inl (upd (upd (upd f (Int32.toNatClampNeg (nI k)) (vp_nar .byte ((x >>> (24 &&& 31)).toInt8.toInt32))) (Int32.toNatClampNeg (nI (k + 1))) (vp_nar .byte ((x >>> (16 &&& 31)).toInt8.toInt32))) (Int32.toNatClampNeg (nI (k + 2))) (vp_nar .byte ((x >>> (8 &&& 31)).toInt8.toInt32)))))] H := hP
  have hD : va_D A [(h0, .inr (0, [.ref qb, .int (nI (k + 3)), .int (-1), .int 0, .int 0, .null, .ref qm, .ref qe, .ref qo, .ref qi, .ref qw, .ref qt, .ref qs, .ref qp])), (qb, .inl (cb, 512, .inl (upd (upd (upd f (Int32.toNatClampNeg (nI k)) (vp_nar .byte ((x >>> (24 &&& 31)).toInt8.toInt32))) (Int32.toNatClampNeg (nI (k + 1))) (vp_nar .byte ((x >>> (16 &&& 31)).toInt8.toInt32))) (Int32.toNatClampNeg (nI (k + 2))) (vp_nar .byte ((x >>> (8 &&& 31)).toInt8.toInt32)))))] := hD
  refine lv_iinc (v := 0) (lv' := [(2, .int 0), (0, .ref h0), (1, .int x)]) hx hb px_d11_30 hl (k := 0) rfl (by decide +kernel) (by decide) rfl (fun ls hl => ?_)
  refine lv_goto (tgt := 3) hx hb px_d11_33 (by decide) ?_
  refine lv_iload_n hx hb px_d11_3 rfl (lv_at hl 0 rfl) ?_
  refine lv_if_lt (tgt := 36) hx hb px_d11_4 (by decide) (fun h9 => absurd h9 (by decide +kernel)) (fun _ => ?_)
  refine lv_aload_n hx hb px_d11_7 rfl (lv_at hl 1 rfl) ?_
  refine va_get (D := (dC, dI)) (ci := 0) (v := .ref qb) (C := "MatroidDesk") (T := px_T0) (N := 14) hx hb htw px_in0 hown hK hP 0 rfl rfl 0 (by decide) (htw _ px_w209) (fun _ h9 => h9) rfl px_d11_8 ?_
  refine lv_aload_n hx hb px_d11_11 rfl (lv_at hl 1 rfl) ?_
  refine va_get (D := (dC, dI)) (ci := 0) (v := .int (nI (k + 3))) (C := "MatroidDesk") (T := px_T0) (N := 14) hx hb htw px_in0 hown hK hP 0 rfl rfl 1 (by decide) (htw _ px_w210) (fun _ h9 => h9) rfl px_d11_12 ?_
  refine lv_iload_n hx hb px_d11_15 rfl (lv_at hl 2 rfl) ?_
  refine lv_iload_n hx hb px_d11_16 rfl (lv_at hl 0 rfl) ?_
  refine lv_ishr hx hb px_d11_17 ?_
  refine lv_i2b (v := (x >>> (0 &&& 31)).toInt8.toInt32) hx hb px_d11_18 rfl ?_
  refine va_bast hx hb hK hP hD hS 1 0 rfl rfl (vp_in_nI (show k + 3 < 512 by omega) (by decide)) px_d11_19 (fun H locs hP hD hS => ?_)
  have hP : va_P (dC, dI) vwCl [(h0, .inr (0, [.ref qb, .int (nI (k + 3)), .int (-1), .int 0, .int 0, .null, .ref qm, .ref qe, .ref qo, .ref qi, .ref qw, .ref qt, .ref qs, .ref qp])), (qb, .inl (cb, 512, .inl (upd (upd (upd (upd f (Int32.toNatClampNeg (nI k)) (vp_nar .byte ((x >>> (24 &&& 31)).toInt8.toInt32))) (Int32.toNatClampNeg (nI (k + 1))) (vp_nar .byte ((x >>> (16 &&& 31)).toInt8.toInt32))) (Int32.toNatClampNeg (nI (k + 2))) (vp_nar .byte ((x >>> (8 &&& 31)).toInt8.toInt32))) (Int32.toNatClampNeg (nI (k + 3))) (vp_nar .byte ((x >>> (0 &&& 31)).toInt8.toInt32)))))] H := hP
  have hD : va_D A [(h0, .inr (0, [.ref qb, .int (nI (k + 3)), .int (-1), .int 0, .int 0, .null, .ref qm, .ref qe, .ref qo, .ref qi, .ref qw, .ref qt, .ref qs, .ref qp])), (qb, .inl (cb, 512, .inl (upd (upd (upd (upd f (Int32.toNatClampNeg (nI k)) (vp_nar .byte ((x >>> (24 &&& 31)).toInt8.toInt32))) (Int32.toNatClampNeg (nI (k + 1))) (vp_nar .byte ((x >>> (16 &&& 31)).toInt8.toInt32))) (Int32.toNatClampNeg (nI (k + 2))) (vp_nar .byte ((x >>> (8 &&& 31)).toInt8.toInt32))) (Int32.toNatClampNeg (nI (k + 3))) (vp_nar .byte ((x >>> (0 &&& 31)).toInt8.toInt32)))))] := hD
  refine lv_aload_n hx hb px_d11_20 rfl (lv_at hl 1 rfl) ?_
  refine lv_dup hx hb px_d11_21 rfl ?_
  refine va_get (D := (dC, dI)) (ci := 0) (v := .int (nI (k + 3))) (C := "MatroidDesk") (T := px_T0) (N := 14) hx hb htw px_in0 hown hK hP 0 rfl rfl 1 (by decide) (htw _ px_w210) (fun _ h9 => h9) rfl px_d11_22 ?_
  refine lv_iconst (v := 1) hx hb px_d11_25 (by decide) ?_
  refine lv_iadd hx hb px_d11_26 ?_
  refine lv_topi (nm_r (e' := (nI (k + 4))) (nI_1 (k + 3)) ?_)
  refine va_put (D := (dC, dI)) (ci := 0) (v := .int (nI (k + 4))) (ty := .int) (C := "MatroidDesk") (T := px_T0) (N := 14) hx hb htw px_in0 px_ty0 px_tyok0 px_nm0 hown hK hP hD hS 0 rfl rfl 1 (by decide) (htw _ px_w210) (fun _ h9 => h9) rfl (by decide +kernel) rfl rfl (Nat.le_of_ble_eq_true rfl) px_d11_27 (fun H locs hP hD hS => ?_)
  have hP : va_P (dC, dI) vwCl [(h0, .inr (0, [.ref qb, .int (nI (k + 4)), .int (-1), .int 0, .int 0, .null, .ref qm, .ref qe, .ref qo, .ref qi, .ref qw, .ref qt, .ref qs, .ref qp])), (qb, .inl (cb, 512, .inl (upd (upd (upd (upd f (Int32.toNatClampNeg (nI k)) (vp_nar .byte ((x >>> (24 &&& 31)).toInt8.toInt32))) (Int32.toNatClampNeg (nI (k + 1))) (vp_nar .byte ((x >>> (16 &&& 31)).toInt8.toInt32))) (Int32.toNatClampNeg (nI (k + 2))) (vp_nar .byte ((x >>> (8 &&& 31)).toInt8.toInt32))) (Int32.toNatClampNeg (nI (k + 3))) (vp_nar .byte ((x >>> (0 &&& 31)).toInt8.toInt32)))))] H := hP
  have hD : va_D A [(h0, .inr (0, [.ref qb, .int (nI (k + 4)), .int (-1), .int 0, .int 0, .null, .ref qm, .ref qe, .ref qo, .ref qi, .ref qw, .ref qt, .ref qs, .ref qp])), (qb, .inl (cb, 512, .inl (upd (upd (upd (upd f (Int32.toNatClampNeg (nI k)) (vp_nar .byte ((x >>> (24 &&& 31)).toInt8.toInt32))) (Int32.toNatClampNeg (nI (k + 1))) (vp_nar .byte ((x >>> (16 &&& 31)).toInt8.toInt32))) (Int32.toNatClampNeg (nI (k + 2))) (vp_nar .byte ((x >>> (8 &&& 31)).toInt8.toInt32))) (Int32.toNatClampNeg (nI (k + 3))) (vp_nar .byte ((x >>> (0 &&& 31)).toInt8.toInt32)))))] := hD
  refine lv_iinc (v := (-8)) (lv' := [(2, .int (-8)), (0, .ref h0), (1, .int x)]) hx hb px_d11_30 hl (k := 0) rfl (by decide +kernel) (by decide) rfl (fun ls hl => ?_)
  refine lv_goto (tgt := 3) hx hb px_d11_33 (by decide) ?_
  refine lv_iload_n hx hb px_d11_3 rfl (lv_at hl 0 rfl) ?_
  refine lv_if_lt (tgt := 36) hx hb px_d11_4 (by decide) (fun _ => ?_) (fun h9 => absurd (by decide +kernel) h9)
  have hP9 := hP.sub (ws' := [(h0, .inr (0, [.ref qb, .int (nI (k + 4)), .int (-1), .int 0, .int 0, .null, .ref qm, .ref qe, .ref qo, .ref qi, .ref qw, .ref qt, .ref qs, .ref qp])), (qb, .inl (cb, 512, .inl (upd (upd (upd (upd f (Int32.toNatClampNeg (nI k)) (vp_nar .byte ((x >>> (24 &&& 31)).toInt8.toInt32))) (Int32.toNatClampNeg (nI (k + 1))) (vp_nar .byte ((x >>> (16 &&& 31)).toInt8.toInt32))) (Int32.toNatClampNeg (nI (k + 2))) (vp_nar .byte ((x >>> (8 &&& 31)).toInt8.toInt32))) (Int32.toNatClampNeg (nI (k + 3))) (vp_nar .byte ((x >>> (0 &&& 31)).toInt8.toInt32)))))]) [0, 1] rfl
  have hD9 := hD.sub (ws' := [(h0, .inr (0, [.ref qb, .int (nI (k + 4)), .int (-1), .int 0, .int 0, .null, .ref qm, .ref qe, .ref qo, .ref qi, .ref qw, .ref qt, .ref qs, .ref qp])), (qb, .inl (cb, 512, .inl (upd (upd (upd (upd f (Int32.toNatClampNeg (nI k)) (vp_nar .byte ((x >>> (24 &&& 31)).toInt8.toInt32))) (Int32.toNatClampNeg (nI (k + 1))) (vp_nar .byte ((x >>> (16 &&& 31)).toInt8.toInt32))) (Int32.toNatClampNeg (nI (k + 2))) (vp_nar .byte ((x >>> (8 &&& 31)).toInt8.toInt32))) (Int32.toNatClampNeg (nI (k + 3))) (vp_nar .byte ((x >>> (0 &&& 31)).toInt8.toInt32)))))]) [0, 1] (by decide) rfl
  have hK9 := hK.sub (tys' := [(cb, .byte)]) [0] rfl
  refine W.widen (k := 0) (n := 0) (Nat.le_of_ble_eq_true rfl) (Nat.le_of_ble_eq_true rfl) ?_
  exact W.vret hx hb hr (fun t ht hW => ⟨⟨(), rfl, trivial, (upd (upd (upd (upd f (Int32.toNatClampNeg (nI k)) (vp_nar .byte ((x >>> (24 &&& 31)).toInt8.toInt32))) (Int32.toNatClampNeg (nI (k + 1))) (vp_nar .byte ((x >>> (16 &&& 31)).toInt8.toInt32))) (Int32.toNatClampNeg (nI (k + 2))) (vp_nar .byte ((x >>> (8 &&& 31)).toInt8.toInt32))) (Int32.toNatClampNeg (nI (k + 3))) (vp_nar .byte ((x >>> (0 &&& 31)).toInt8.toInt32))), by rw [ht]; exact hP9, va_K.moved hW.alike hK9, hD9⟩, hS.F ht⟩) hS.2.2 px_d11_36
set_option maxHeartbeats 4000000 in
set_option maxRecDepth 100000 in
/-- feed -/
theorem px_D_feed (l : Launch) (dC : Nat → ClassId) (dI : Nat → Nat → Nat) (sz : Nat) (h0 : Nat) (qb : Nat) (qm : Nat) (qe : Nat) (qo : Nat) (qi : Nat) (qw : Nat) (qt : Nat) (qs : Nat) (qp : Nat) (cb : ClassId) (x1 : Int32) (x2 : Int32) (x3 : Int32) (x4 : Int32) (x5 : Int32) : Met l px_y12 px_s12 ({ frames := 1, cells := 0, slots := 0, locals := 22 }) (va_Pc [.ref h0, .int x1, .int x2, .int x3, .int x4, .int x5] (fun U => U.heap.size = sz ∧ va_P (dC, dI) vwCl [(h0, .inr (0, [.ref qb, .int 0, .int (-1), .int 0, .int 0, .null, .ref qm, .ref qe, .ref qo, .ref qi, .ref qw, .ref qt, .ref qs, .ref qp])), (qb, .inl (cb, 512, .inl (fun _ => 0)))] U.heap ∧ va_K (dC, dI) vwCl [(cb, .byte)] U ∧ va_D (fun _ => True) [(h0, .inr (0, [.ref qb, .int 0, .int (-1), .int 0, .int 0, .null, .ref qm, .ref qe, .ref qo, .ref qi, .ref qw, .ref qt, .ref qs, .ref qp])), (qb, .inl (cb, 512, .inl (fun _ => 0)))] ∧ px_N U)) (va_Qv (fun (_ : Unit) => True) (fun (_ : Unit) (t : State) => va_P (dC, dI) vwCl [] t.heap ∧ va_K (dC, dI) vwCl [(cb, .byte)] t ∧ va_D (va_A [(h0, .inr (0, [.ref qb, .int 0, .int (-1), .int 0, .int 0, .null, .ref qm, .ref qe, .ref qo, .ref qi, .ref qw, .ref qt, .ref qs, .ref qp])), (qb, .inl (cb, 512, .inl (fun _ => 0)))] sz) []) (va_A [(h0, .inr (0, [.ref qb, .int 0, .int (-1), .int 0, .int 0, .null, .ref qm, .ref qe, .ref qo, .ref qi, .ref qw, .ref qt, .ref qs, .ref qp])), (qb, .inl (cb, 512, .inl (fun _ => 0)))] sz)) 0 0 (va_A [(h0, .inr (0, [.ref qb, .int 0, .int (-1), .int 0, .int 0, .null, .ref qm, .ref qe, .ref qo, .ref qi, .ref qw, .ref qt, .ref qs, .ref qp])), (qb, .inl (cb, 512, .inl (fun _ => 0)))] sz) := by
  refine Met.ofW (cc := prog_1_method_2_code) (maxL := 6) (ret := none) (by decide) rfl ?_
  intro p e s m args below meth c s₁ B hml hv
  obtain ⟨rfl, hsz, hP, hK, hD0, hN⟩ := hv
  have hx := B.exec
  have hb := B.bytes
  have hr := B.returns
  have htw : ∀ w ∈ px_all, w.before _ s = true := fun w h => atoms_spec (ws := px_s12) B.pre w (List.mem_cons_of_mem _ h)
  have hown : s.vm.findClass "MatroidDesk" = some m.cls := findClass_of_methodNamed B.named
  have hlocks := B.notSynchronized
  subst hsz
  have hD := hD0.self (sz := s.heap.size)
  generalize hAe : va_A [(h0, .inr (0, [.ref qb, .int 0, .int (-1), .int 0, .int 0, .null, .ref qm, .ref qe, .ref qo, .ref qi, .ref qw, .ref qt, .ref qs, .ref qp])), (qb, .inl (cb, 512, .inl (fun _ => 0)))] s.heap.size = A at hD ⊢
  have hA : ∀ q : Nat, s.heap.size ≤ q → A q := fun q h => by rw [← hAe]; exact Or.inr h
  have hS : va_S A s.heap s.heap [] := va_S.rf
  have hP : va_P (dC, dI) vwCl [(h0, .inr (0, [.ref qb, .int 0, .int (-1), .int 0, .int 0, .null, .ref qm, .ref qe, .ref qo, .ref qi, .ref qw, .ref qt, .ref qs, .ref qp])), (qb, .inl (cb, 512, .inl (fun _ => 0)))] s.heap := hP
  have hl := lv_entry ([.ref h0, .int x1, .int x2, .int x3, .int x4, .int x5]) (n := 6) (Nat.le_of_ble_eq_true rfl)
  rw [lg_entry_eq]
  generalize (lg_sl ([.ref h0, .int x1, .int x2, .int x3, .int x4, .int x5]) ++ List.replicate (6 - (lg_sl ([.ref h0, .int x1, .int x2, .int x3, .int x4, .int x5])).length) Slot.unset).toArray = ls at hl ⊢
  have hl : lv_has ls 6 [(0, .ref h0), (1, .int x1), (2, .int x2), (3, .int x3), (4, .int x4), (5, .int x5)] := hl
  refine lv_aload_n hx hb px_d12_0 rfl (lv_at hl 0 rfl) ?_
  refine va_get (D := (dC, dI)) (ci := 0) (v := .int 0) (C := "MatroidDesk") (T := px_T0) (N := 14) hx hb htw px_in0 hown hK hP 0 rfl rfl 1 (by decide) (htw _ px_w210) (fun _ h9 => h9) rfl px_d12_1 ?_
  refine lv_bipush (v := 20) hx hb px_d12_4 (by decide) ?_
  refine lv_iadd hx hb px_d12_6 ?_
  refine lv_topi (nm_r (e' := (20 : Int32)) (by decide +kernel) ?_)
  refine lv_sipush (v := 16384) hx hb px_d12_7 (by decide) ?_
  refine lv_icmp_le (tgt := 23) hx hb px_d12_10 (by decide) (fun _ => ?_) (fun h9 => absurd (by decide +kernel) h9)
  refine lv_aload_n hx hb px_d12_23 rfl (lv_at hl 0 rfl) ?_
  refine va_get (D := (dC, dI)) (ci := 0) (v := .int 0) (C := "MatroidDesk") (T := px_T0) (N := 14) hx hb htw px_in0 hown hK hP 0 rfl rfl 1 (by decide) (htw _ px_w210) (fun _ h9 => h9) rfl px_d12_24 ?_
  refine lv_bipush (v := 20) hx hb px_d12_27 (by decide) ?_
  refine lv_iadd hx hb px_d12_29 ?_
  refine lv_topi (nm_r (e' := (20 : Int32)) (by decide +kernel) ?_)
  refine lv_aload_n hx hb px_d12_30 rfl (lv_at hl 0 rfl) ?_
  refine va_get (D := (dC, dI)) (ci := 0) (v := .ref qb) (C := "MatroidDesk") (T := px_T0) (N := 14) hx hb htw px_in0 hown hK hP 0 rfl rfl 0 (by decide) (htw _ px_w209) (fun _ h9 => h9) rfl px_d12_31 ?_
  refine va_alen (v := 512) hx hb hK hP 1 0 rfl rfl (by decide +kernel) px_d12_34 ?_
  refine lv_icmp_le (tgt := 56) hx hb px_d12_35 (by decide) (fun _ => ?_) (fun h9 => absurd (by decide +kernel) h9)
  refine lv_aload_n hx hb px_d12_56 rfl (lv_at hl 0 rfl) ?_
  refine lv_iload_n hx hb px_d12_57 rfl (lv_at hl 1 rfl) ?_
  have hPc := hP.sub (ws' := [(h0, .inr (0, [.ref qb, .int (nI 0), .int (-1), .int 0, .int 0, .null, .ref qm, .ref qe, .ref qo, .ref qi, .ref qw, .ref qt, .ref qs, .ref qp])), (qb, .inl (cb, 512, .inl (fun _ => 0)))]) [0, 1] rfl
  have hDc := hD.sub (ws' := [(h0, .inr (0, [.ref qb, .int (nI 0), .int (-1), .int 0, .int 0, .null, .ref qm, .ref qe, .ref qo, .ref qi, .ref qw, .ref qt, .ref qs, .ref qp])), (qb, .inl (cb, 512, .inl (fun _ => 0)))]) [0, 1] (by decide) rfl
  have hKc := hK.sub (tys' := [(cb, .byte)]) [0] rfl
  have hFc := va_free (wc := [(h0, .inr (0, [.ref qb, .int (nI 0), .int (-1), .int 0, .int 0, .null, .ref qm, .ref qe, .ref qo, .ref qi, .ref qw, .ref qt, .ref qs, .ref qp])), (qb, .inl (cb, 512, .inl (fun _ => 0)))]) hD hS hA [0, 1] rfl
  refine va_callv (va_runV (As := [.int x1]) (rest := []) ⟨hx, hb, hml, hown, htw⟩ (px_takeInt l dC dI s.heap.size h0 qb qm qe qo qi qw qt qs qp cb 0 (fun _ => 0) x1 (by decide)) (cwV 1 htw (px_gv px_w296 px_w290 px_w291 px_w6 px_g11) rfl rfl rfl (by decide +kernel) ⟨Nat.le_of_ble_eq_true rfl, Nat.le_of_ble_eq_true rfl⟩) ⟨fun a U g mk q => by obtain ⟨q0, q1, qP, qK, qD, qN⟩ := q; exact ⟨q0, q1, qP, va_K.moved (u := U) (U := U.calling g mk a) (Vm.Alike.refl U.vm) qK, qD, qN.same rfl⟩, va_recv hK hP (ci := 0) (q0 := 0) rfl rfl, fun U hU hW => ⟨rfl, by rw [hU], by rw [hU]; exact hPc, va_K.moved hW.alike hKc, hDc.weaken (fun _ _ _ _ => trivial), hN.warm hW⟩⟩ rfl rfl hl.1 rfl (lv_room (Nat.le_of_ble_eq_true rfl)) px_d12_58 ⟨(Nat.le_of_ble_eq_true rfl), (Nat.le_of_ble_eq_true rfl)⟩) hS (fun q _ h => hFc q h) hFc (fun u t H1 locs ht hvm hw_58 hB hz1 hk1 hS => ?_)
  obtain ⟨f1, hP1, hK1, hD1⟩ := hB
  rw [ht] at hP1
  have hK1 := va_K.moved hvm.symm hK1
  obtain ⟨hP, hD⟩ := va_join (wr := []) (w1 := [(h0, .inr (0, [.ref qb, .int (nI (0 + 4)), .int (-1), .int 0, .int 0, .null, .ref qm, .ref qe, .ref qo, .ref qi, .ref qw, .ref qt, .ref qs, .ref qp])), (qb, .inl (cb, 512, .inl f1))]) hP hD [0, 1] [] rfl rfl (by decide) (by decide) hk1 hFc hP1 hD1
  generalize H1 = H at hP hS ⊢
  have hP : va_P (dC, dI) vwCl [(h0, .inr (0, [.ref qb, .int (nI (0 + 4)), .int (-1), .int 0, .int 0, .null, .ref qm, .ref qe, .ref qo, .ref qi, .ref qw, .ref qt, .ref qs, .ref qp])), (qb, .inl (cb, 512, .inl f1))] H := hP
  have hD : va_D A [(h0, .inr (0, [.ref qb, .int (nI (0 + 4)), .int (-1), .int 0, .int 0, .null, .ref qm, .ref qe, .ref qo, .ref qi, .ref qw, .ref qt, .ref qs, .ref qp])), (qb, .inl (cb, 512, .inl f1))] := hD
  refine lv_aload_n hx hb px_d12_61 rfl (lv_at hl 0 rfl) ?_
  refine lv_iload_n hx hb px_d12_62 rfl (lv_at hl 2 rfl) ?_
  have hPc := hP.sub (ws' := [(h0, .inr (0, [.ref qb, .int (nI (0 + 4)), .int (-1), .int 0, .int 0, .null, .ref qm, .ref qe, .ref qo, .ref qi, .ref qw, .ref qt, .ref qs, .ref qp])), (qb, .inl (cb, 512, .inl f1))]) [0, 1] rfl
  have hDc := hD.sub (ws' := [(h0, .inr (0, [.ref qb, .int (nI (0 + 4)), .int (-1), .int 0, .int 0, .null, .ref qm, .ref qe, .ref qo, .ref qi, .ref qw, .ref qt, .ref qs, .ref qp])), (qb, .inl (cb, 512, .inl f1))]) [0, 1] (by decide) rfl
  have hKc := hK.sub (tys' := [(cb, .byte)]) [0] rfl
  have hFc := va_free (wc := [(h0, .inr (0, [.ref qb, .int (nI (0 + 4)), .int (-1), .int 0, .int 0, .null, .ref qm, .ref qe, .ref qo, .ref qi, .ref qw, .ref qt, .ref qs, .ref qp])), (qb, .inl (cb, 512, .inl f1))]) hD hS hA [0, 1] rfl
  refine va_callv (va_runV (As := [.int x2]) (rest := []) ⟨hx, hb, hml, hown, htw⟩ (px_takeInt l dC dI H.size h0 qb qm qe qo qi qw qt qs qp cb (0 + 4) f1 x2 (by decide)) (cwV 1 htw (px_gv px_w296 px_w290 px_w291 px_w6 px_g11) rfl rfl rfl (by decide +kernel) ⟨Nat.le_of_ble_eq_true rfl, Nat.le_of_ble_eq_true rfl⟩) ⟨fun a U g mk q => by obtain ⟨q0, q1, qP, qK, qD, qN⟩ := q; exact ⟨q0, q1, qP, va_K.moved (u := U) (U := U.calling g mk a) (Vm.Alike.refl U.vm) qK, qD, qN.same rfl⟩, va_recv hK hP (ci := 0) (q0 := 0) rfl rfl, fun U hU hW => ⟨rfl, by rw [hU], by rw [hU]; exact hPc, va_K.moved hW.alike hKc, hDc.weaken (fun _ _ _ _ => trivial), hN.warm hW⟩⟩ rfl rfl hl.1 rfl (lv_room (Nat.le_of_ble_eq_true rfl)) px_d12_63 ⟨(Nat.le_of_ble_eq_true rfl), (Nat.le_of_ble_eq_true rfl)⟩) hS (fun q _ h => hFc q h) hFc (fun u t H1 locs ht hvm hw_63 hB hz1 hk1 hS => ?_)
  obtain ⟨f1_1, hP1, hK1, hD1⟩ := hB
  rw [ht] at hP1
  have hK1 := va_K.moved hvm.symm hK1
  obtain ⟨hP, hD⟩ := va_join (wr := []) (w1 := [(h0, .inr (0, [.ref qb, .int (nI ((0 + 4) + 4)), .int (-1), .int 0, .int 0, .null, .ref qm, .ref qe, .ref qo, .ref qi, .ref qw, .ref qt, .ref qs, .ref qp])), (qb, .inl (cb, 512, .inl f1_1))]) hP hD [0, 1] [] rfl rfl (by decide) (by decide) hk1 hFc hP1 hD1
  generalize H1 = H at hP hS ⊢
  have hP : va_P (dC, dI) vwCl [(h0, .inr (0, [.ref qb, .int (nI ((0 + 4) + 4)), .int (-1), .int 0, .int 0, .null, .ref qm, .ref qe, .ref qo, .ref qi, .ref qw, .ref qt, .ref qs, .ref qp])), (qb, .inl (cb, 512, .inl f1_1))] H := hP
  have hD : va_D A [(h0, .inr (0, [.ref qb, .int (nI ((0 + 4) + 4)), .int (-1), .int 0, .int 0, .null, .ref qm, .ref qe, .ref qo, .ref qi, .ref qw, .ref qt, .ref qs, .ref qp])), (qb, .inl (cb, 512, .inl f1_1))] := hD
  refine lv_aload_n hx hb px_d12_66 rfl (lv_at hl 0 rfl) ?_
  refine lv_iload_n hx hb px_d12_67 rfl (lv_at hl 3 rfl) ?_
  have hPc := hP.sub (ws' := [(h0, .inr (0, [.ref qb, .int (nI ((0 + 4) + 4)), .int (-1), .int 0, .int 0, .null, .ref qm, .ref qe, .ref qo, .ref qi, .ref qw, .ref qt, .ref qs, .ref qp])), (qb, .inl (cb, 512, .inl f1_1))]) [0, 1] rfl
  have hDc := hD.sub (ws' := [(h0, .inr (0, [.ref qb, .int (nI ((0 + 4) + 4)), .int (-1), .int 0, .int 0, .null, .ref qm, .ref qe, .ref qo, .ref qi, .ref qw, .ref qt, .ref qs, .ref qp])), (qb, .inl (cb, 512, .inl f1_1))]) [0, 1] (by decide) rfl
  have hKc := hK.sub (tys' := [(cb, .byte)]) [0] rfl
  have hFc := va_free (wc := [(h0, .inr (0, [.ref qb, .int (nI ((0 + 4) + 4)), .int (-1), .int 0, .int 0, .null, .ref qm, .ref qe, .ref qo, .ref qi, .ref qw, .ref qt, .ref qs, .ref qp])), (qb, .inl (cb, 512, .inl f1_1))]) hD hS hA [0, 1] rfl
  refine va_callv (va_runV (As := [.int x3]) (rest := []) ⟨hx, hb, hml, hown, htw⟩ (px_takeInt l dC dI H.size h0 qb qm qe qo qi qw qt qs qp cb ((0 + 4) + 4) f1_1 x3 (by decide)) (cwV 1 htw (px_gv px_w296 px_w290 px_w291 px_w6 px_g11) rfl rfl rfl (by decide +kernel) ⟨Nat.le_of_ble_eq_true rfl, Nat.le_of_ble_eq_true rfl⟩) ⟨fun a U g mk q => by obtain ⟨q0, q1, qP, qK, qD, qN⟩ := q; exact ⟨q0, q1, qP, va_K.moved (u := U) (U := U.calling g mk a) (Vm.Alike.refl U.vm) qK, qD, qN.same rfl⟩, va_recv hK hP (ci := 0) (q0 := 0) rfl rfl, fun U hU hW => ⟨rfl, by rw [hU], by rw [hU]; exact hPc, va_K.moved hW.alike hKc, hDc.weaken (fun _ _ _ _ => trivial), hN.warm hW⟩⟩ rfl rfl hl.1 rfl (lv_room (Nat.le_of_ble_eq_true rfl)) px_d12_68 ⟨(Nat.le_of_ble_eq_true rfl), (Nat.le_of_ble_eq_true rfl)⟩) hS (fun q _ h => hFc q h) hFc (fun u t H1 locs ht hvm hw_68 hB hz1 hk1 hS => ?_)
  obtain ⟨f1_2, hP1, hK1, hD1⟩ := hB
  rw [ht] at hP1
  have hK1 := va_K.moved hvm.symm hK1
  obtain ⟨hP, hD⟩ := va_join (wr := []) (w1 := [(h0, .inr (0, [.ref qb, .int (nI (((0 + 4) + 4) + 4)), .int (-1), .int 0, .int 0, .null, .ref qm, .ref qe, .ref qo, .ref qi, .ref qw, .ref qt, .ref qs, .ref qp])), (qb, .inl (cb, 512, .inl f1_2))]) hP hD [0, 1] [] rfl rfl (by decide) (by decide) hk1 hFc hP1 hD1
  generalize H1 = H at hP hS ⊢
  have hP : va_P (dC, dI) vwCl [(h0, .inr (0, [.ref qb, .int (nI (((0 + 4) + 4) + 4)), .int (-1), .int 0, .int 0, .null, .ref qm, .ref qe, .ref qo, .ref qi, .ref qw, .ref qt, .ref qs, .ref qp])), (qb, .inl (cb, 512, .inl f1_2))] H := hP
  have hD : va_D A [(h0, .inr (0, [.ref qb, .int (nI (((0 + 4) + 4) + 4)), .int (-1), .int 0, .int 0, .null, .ref qm, .ref qe, .ref qo, .ref qi, .ref qw, .ref qt, .ref qs, .ref qp])), (qb, .inl (cb, 512, .inl f1_2))] := hD
  refine lv_aload_n hx hb px_d12_71 rfl (lv_at hl 0 rfl) ?_
  refine lv_iload hx hb px_d12_72 (lv_at hl 4 rfl) ?_
  have hPc := hP.sub (ws' := [(h0, .inr (0, [.ref qb, .int (nI (((0 + 4) + 4) + 4)), .int (-1), .int 0, .int 0, .null, .ref qm, .ref qe, .ref qo, .ref qi, .ref qw, .ref qt, .ref qs, .ref qp])), (qb, .inl (cb, 512, .inl f1_2))]) [0, 1] rfl
  have hDc := hD.sub (ws' := [(h0, .inr (0, [.ref qb, .int (nI (((0 + 4) + 4) + 4)), .int (-1), .int 0, .int 0, .null, .ref qm, .ref qe, .ref qo, .ref qi, .ref qw, .ref qt, .ref qs, .ref qp])), (qb, .inl (cb, 512, .inl f1_2))]) [0, 1] (by decide) rfl
  have hKc := hK.sub (tys' := [(cb, .byte)]) [0] rfl
  have hFc := va_free (wc := [(h0, .inr (0, [.ref qb, .int (nI (((0 + 4) + 4) + 4)), .int (-1), .int 0, .int 0, .null, .ref qm, .ref qe, .ref qo, .ref qi, .ref qw, .ref qt, .ref qs, .ref qp])), (qb, .inl (cb, 512, .inl f1_2))]) hD hS hA [0, 1] rfl
  refine va_callv (va_runV (As := [.int x4]) (rest := []) ⟨hx, hb, hml, hown, htw⟩ (px_takeInt l dC dI H.size h0 qb qm qe qo qi qw qt qs qp cb (((0 + 4) + 4) + 4) f1_2 x4 (by decide)) (cwV 1 htw (px_gv px_w296 px_w290 px_w291 px_w6 px_g11) rfl rfl rfl (by decide +kernel) ⟨Nat.le_of_ble_eq_true rfl, Nat.le_of_ble_eq_true rfl⟩) ⟨fun a U g mk q => by obtain ⟨q0, q1, qP, qK, qD, qN⟩ := q; exact ⟨q0, q1, qP, va_K.moved (u := U) (U := U.calling g mk a) (Vm.Alike.refl U.vm) qK, qD, qN.same rfl⟩, va_recv hK hP (ci := 0) (q0 := 0) rfl rfl, fun U hU hW => ⟨rfl, by rw [hU], by rw [hU]; exact hPc, va_K.moved hW.alike hKc, hDc.weaken (fun _ _ _ _ => trivial), hN.warm hW⟩⟩ rfl rfl hl.1 rfl (lv_room (Nat.le_of_ble_eq_true rfl)) px_d12_74 ⟨(Nat.le_of_ble_eq_true rfl), (Nat.le_of_ble_eq_true rfl)⟩) hS (fun q _ h => hFc q h) hFc (fun u t H1 locs ht hvm hw_74 hB hz1 hk1 hS => ?_)
  obtain ⟨f1_3, hP1, hK1, hD1⟩ := hB
  rw [ht] at hP1
  have hK1 := va_K.moved hvm.symm hK1
  obtain ⟨hP, hD⟩ := va_join (wr := []) (w1 := [(h0, .inr (0, [.ref qb, .int (nI ((((0 + 4) + 4) + 4) + 4)), .int (-1), .int 0, .int 0, .null, .ref qm, .ref qe, .ref qo, .ref qi, .ref qw, .ref qt, .ref qs, .ref qp])), (qb, .inl (cb, 512, .inl f1_3))]) hP hD [0, 1] [] rfl rfl (by decide) (by decide) hk1 hFc hP1 hD1
  generalize H1 = H at hP hS ⊢
  have hP : va_P (dC, dI) vwCl [(h0, .inr (0, [.ref qb, .int (nI ((((0 + 4) + 4) + 4) + 4)), .int (-1), .int 0, .int 0, .null, .ref qm, .ref qe, .ref qo, .ref qi, .ref qw, .ref qt, .ref qs, .ref qp])), (qb, .inl (cb, 512, .inl f1_3))] H := hP
  have hD : va_D A [(h0, .inr (0, [.ref qb, .int (nI ((((0 + 4) + 4) + 4) + 4)), .int (-1), .int 0, .int 0, .null, .ref qm, .ref qe, .ref qo, .ref qi, .ref qw, .ref qt, .ref qs, .ref qp])), (qb, .inl (cb, 512, .inl f1_3))] := hD
  refine lv_aload_n hx hb px_d12_77 rfl (lv_at hl 0 rfl) ?_
  refine lv_iload hx hb px_d12_78 (lv_at hl 5 rfl) ?_
  have hPc := hP.sub (ws' := [(h0, .inr (0, [.ref qb, .int (nI ((((0 + 4) + 4) + 4) + 4)), .int (-1), .int 0, .int 0, .null, .ref qm, .ref qe, .ref qo, .ref qi, .ref qw, .ref qt, .ref qs, .ref qp])), (qb, .inl (cb, 512, .inl f1_3))]) [0, 1] rfl
  have hDc := hD.sub (ws' := [(h0, .inr (0, [.ref qb, .int (nI ((((0 + 4) + 4) + 4) + 4)), .int (-1), .int 0, .int 0, .null, .ref qm, .ref qe, .ref qo, .ref qi, .ref qw, .ref qt, .ref qs, .ref qp])), (qb, .inl (cb, 512, .inl f1_3))]) [0, 1] (by decide) rfl
  have hKc := hK.sub (tys' := [(cb, .byte)]) [0] rfl
  have hFc := va_free (wc := [(h0, .inr (0, [.ref qb, .int (nI ((((0 + 4) + 4) + 4) + 4)), .int (-1), .int 0, .int 0, .null, .ref qm, .ref qe, .ref qo, .ref qi, .ref qw, .ref qt, .ref qs, .ref qp])), (qb, .inl (cb, 512, .inl f1_3))]) hD hS hA [0, 1] rfl
  refine va_callv (va_runV (As := [.int x5]) (rest := []) ⟨hx, hb, hml, hown, htw⟩ (px_takeInt l dC dI H.size h0 qb qm qe qo qi qw qt qs qp cb ((((0 + 4) + 4) + 4) + 4) f1_3 x5 (by decide)) (cwV 1 htw (px_gv px_w296 px_w290 px_w291 px_w6 px_g11) rfl rfl rfl (by decide +kernel) ⟨Nat.le_of_ble_eq_true rfl, Nat.le_of_ble_eq_true rfl⟩) ⟨fun a U g mk q => by obtain ⟨q0, q1, qP, qK, qD, qN⟩ := q; exact ⟨q0, q1, qP, va_K.moved (u := U) (U := U.calling g mk a) (Vm.Alike.refl U.vm) qK, qD, qN.same rfl⟩, va_recv hK hP (ci := 0) (q0 := 0) rfl rfl, fun U hU hW => ⟨rfl, by rw [hU], by rw [hU]; exact hPc, va_K.moved hW.alike hKc, hDc.weaken (fun _ _ _ _ => trivial), hN.warm hW⟩⟩ rfl rfl hl.1 rfl (lv_room (Nat.le_of_ble_eq_true rfl)) px_d12_80 ⟨(Nat.le_of_ble_eq_true rfl), (Nat.le_of_ble_eq_true rfl)⟩) hS (fun q _ h => hFc q h) hFc (fun u t H1 locs ht hvm hw_80 hB hz1 hk1 hS => ?_)
  obtain ⟨f1_4, hP1, hK1, hD1⟩ := hB
  rw [ht] at hP1
  have hK1 := va_K.moved hvm.symm hK1
  obtain ⟨hP, hD⟩ := va_join (wr := []) (w1 := [(h0, .inr (0, [.ref qb, .int (nI (((((0 + 4) + 4) + 4) + 4) + 4)), .int (-1), .int 0, .int 0, .null, .ref qm, .ref qe, .ref qo, .ref qi, .ref qw, .ref qt, .ref qs, .ref qp])), (qb, .inl (cb, 512, .inl f1_4))]) hP hD [0, 1] [] rfl rfl (by decide) (by decide) hk1 hFc hP1 hD1
  generalize H1 = H at hP hS ⊢
  have hP : va_P (dC, dI) vwCl [(h0, .inr (0, [.ref qb, .int (nI (((((0 + 4) + 4) + 4) + 4) + 4)), .int (-1), .int 0, .int 0, .null, .ref qm, .ref qe, .ref qo, .ref qi, .ref qw, .ref qt, .ref qs, .ref qp])), (qb, .inl (cb, 512, .inl f1_4))] H := hP
  have hD : va_D A [(h0, .inr (0, [.ref qb, .int (nI (((((0 + 4) + 4) + 4) + 4) + 4)), .int (-1), .int 0, .int 0, .null, .ref qm, .ref qe, .ref qo, .ref qi, .ref qw, .ref qt, .ref qs, .ref qp])), (qb, .inl (cb, 512, .inl f1_4))] := hD
  have hP9 := hP.sub (ws' := []) [] rfl
  have hD9 := hD.sub (ws' := []) [] (by decide) rfl
  have hK9 := hK.sub (tys' := [(cb, .byte)]) [0] rfl
  refine W.widen (k := 0) (n := 0) (Nat.le_of_ble_eq_true rfl) (Nat.le_of_ble_eq_true rfl) ?_
  exact W.vret hx hb hr (fun t ht hW => ⟨⟨(), rfl, trivial, by rw [ht]; exact hP9, va_K.moved hW.alike hK9, hD9⟩, hS.F ht⟩) hS.2.2 px_d12_83
set_option maxHeartbeats 4000000 in
set_option maxRecDepth 100000 in
/-- end(0) -/
theorem px_D_end0 (l : Launch) (dC : Nat → ClassId) (dI : Nat → Nat → Nat) (sz : Nat) (h0 : Nat) (qb : Nat) (qm : Nat) (qe : Nat) (qo : Nat) (qi : Nat) (qw : Nat) (qt : Nat) (qs : Nat) (qp : Nat) : Met l px_y13 px_s13 ({ frames := 0, cells := 0, slots := 0, locals := 0 }) (va_Pc [.ref h0, .int 0] (fun U => U.heap.size = sz ∧ va_P (dC, dI) vwCl [(h0, .inr (0, [.ref qb, .int 0, .int (-1), .int 0, .int 0, .null, .ref qm, .ref qe, .ref qo, .ref qi, .ref qw, .ref qt, .ref qs, .ref qp]))] U.heap ∧ va_K (dC, dI) vwCl [] U ∧ va_D (fun _ => True) [(h0, .inr (0, [.ref qb, .int 0, .int (-1), .int 0, .int 0, .null, .ref qm, .ref qe, .ref qo, .ref qi, .ref qw, .ref qt, .ref qs, .ref qp]))] ∧ px_N U)) (va_Qi (fun (r : Int32) (_ : Unit) => r = 0) (fun (_ : Unit) (t : State) => va_P (dC, dI) vwCl [] t.heap ∧ va_K (dC, dI) vwCl [] t ∧ va_D (va_A [(h0, .inr (0, [.ref qb, .int 0, .int (-1), .int 0, .int 0, .null, .ref qm, .ref qe, .ref qo, .ref qi, .ref qw, .ref qt, .ref qs, .ref qp]))] sz) []) (va_A [(h0, .inr (0, [.ref qb, .int 0, .int (-1), .int 0, .int 0, .null, .ref qm, .ref qe, .ref qo, .ref qi, .ref qw, .ref qt, .ref qs, .ref qp]))] sz)) 0 0 (va_A [(h0, .inr (0, [.ref qb, .int 0, .int (-1), .int 0, .int 0, .null, .ref qm, .ref qe, .ref qo, .ref qi, .ref qw, .ref qt, .ref qs, .ref qp]))] sz) := by
  refine Met.ofW (cc := prog_1_method_3_code) (maxL := 3) (ret := (some .int)) (by decide) rfl ?_
  intro p e s m args below meth c s₁ B hml hv
  obtain ⟨rfl, hsz, hP, hK, hD0, hN⟩ := hv
  have hx := B.exec
  have hb := B.bytes
  have hr := B.returns
  have htw : ∀ w ∈ px_all, w.before _ s = true := fun w h => atoms_spec (ws := px_s13) B.pre w (List.mem_cons_of_mem _ h)
  have hown : s.vm.findClass "MatroidDesk" = some m.cls := findClass_of_methodNamed B.named
  have hlocks := B.notSynchronized
  subst hsz
  have hD := hD0.self (sz := s.heap.size)
  generalize hAe : va_A [(h0, .inr (0, [.ref qb, .int 0, .int (-1), .int 0, .int 0, .null, .ref qm, .ref qe, .ref qo, .ref qi, .ref qw, .ref qt, .ref qs, .ref qp]))] s.heap.size = A at hD ⊢
  have hA : ∀ q : Nat, s.heap.size ≤ q → A q := fun q h => by rw [← hAe]; exact Or.inr h
  have hS : va_S A s.heap s.heap [] := va_S.rf
  have hP : va_P (dC, dI) vwCl [(h0, .inr (0, [.ref qb, .int 0, .int (-1), .int 0, .int 0, .null, .ref qm, .ref qe, .ref qo, .ref qi, .ref qw, .ref qt, .ref qs, .ref qp]))] s.heap := hP
  have hl := lv_entry ([.ref h0, .int 0]) (n := 3) (Nat.le_of_ble_eq_true rfl)
  rw [lg_entry_eq]
  generalize (lg_sl ([.ref h0, .int 0]) ++ List.replicate (3 - (lg_sl ([.ref h0, .int 0])).length) Slot.unset).toArray = ls at hl ⊢
  have hl : lv_has ls 3 [(0, .ref h0), (1, .int 0)] := hl
  refine lv_iload_n hx hb px_d13_0 rfl (lv_at hl 1 rfl) ?_
  refine lv_if_lt (tgt := 12) hx hb px_d13_1 (by decide) (fun h9 => absurd h9 (by decide +kernel)) (fun _ => ?_)
  refine lv_iload_n hx hb px_d13_4 rfl (lv_at hl 1 rfl) ?_
  refine lv_aload_n hx hb px_d13_5 rfl (lv_at hl 0 rfl) ?_
  refine va_get (D := (dC, dI)) (ci := 0) (v := .int 0) (C := "MatroidDesk") (T := px_T0) (N := 14) hx hb htw px_in0 hown hK hP 0 rfl rfl 1 (by decide) (htw _ px_w210) (fun _ h9 => h9) rfl px_d13_6 ?_
  refine lv_icmp_le (tgt := 22) hx hb px_d13_9 (by decide) (fun _ => ?_) (fun h9 => absurd (by decide +kernel) h9)
  refine lv_aload_n hx hb px_d13_22 rfl (lv_at hl 0 rfl) ?_
  refine va_get (D := (dC, dI)) (ci := 0) (v := .int 0) (C := "MatroidDesk") (T := px_T0) (N := 14) hx hb htw px_in0 hown hK hP 0 rfl rfl 1 (by decide) (htw _ px_w210) (fun _ h9 => h9) rfl px_d13_23 ?_
  refine lv_istore_n (lv' := [(2, .int 0), (0, .ref h0), (1, .int 0)]) hx hb px_d13_26 rfl hl (by decide) rfl (fun ls hl => ?_)
  refine lv_aload_n hx hb px_d13_27 rfl (lv_at hl 1 rfl) ?_
  refine lv_iload_n hx hb px_d13_28 rfl (lv_at hl 2 rfl) ?_
  refine va_put (D := (dC, dI)) (ci := 0) (v := .int 0) (ty := .int) (C := "MatroidDesk") (T := px_T0) (N := 14) hx hb htw px_in0 px_ty0 px_tyok0 px_nm0 hown hK hP hD hS 0 rfl rfl 1 (by decide) (htw _ px_w210) (fun _ h9 => h9) rfl (by decide +kernel) rfl rfl (Nat.le_of_ble_eq_true rfl) px_d13_29 (fun H locs hP hD hS => ?_)
  have hP : va_P (dC, dI) vwCl [(h0, .inr (0, [.ref qb, .int 0, .int (-1), .int 0, .int 0, .null, .ref qm, .ref qe, .ref qo, .ref qi, .ref qw, .ref qt, .ref qs, .ref qp]))] H := hP
  have hD : va_D A [(h0, .inr (0, [.ref qb, .int 0, .int (-1), .int 0, .int 0, .null, .ref qm, .ref qe, .ref qo, .ref qi, .ref qw, .ref qt, .ref qs, .ref qp]))] := hD
  refine lv_iload_n hx hb px_d13_32 rfl (lv_at hl 0 rfl) ?_
  have hP9 := hP.sub (ws' := []) [] rfl
  have hD9 := hD.sub (ws' := []) [] (by decide) rfl
  have hK9 := hK.sub (tys' := []) [] rfl
  refine W.widen (k := 0) (n := 0) (Nat.le_of_ble_eq_true rfl) (Nat.le_of_ble_eq_true rfl) ?_
  exact W.iret (v := 0) hx hb hr (fun t ht hW => ⟨⟨0, (), rfl, rfl, by rw [ht]; exact hP9, va_K.moved hW.alike hK9, hD9⟩, hS.F ht⟩) hS.2.2 px_d13_33
