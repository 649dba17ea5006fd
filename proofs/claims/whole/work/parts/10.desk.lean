set_option maxHeartbeats 4000000 in
set_option maxRecDepth 100000 in
/-- Tokens() -/
theorem px_Tokens_init (l : Launch) (dC : Nat → ClassId) (dI : Nat → Nat → Nat) (sz : Nat) (h0 : Nat) : Met l px_y0 px_s0 ({ frames := 1, cells := 1, slots := 0, locals := 12 }) (va_Pc [.ref h0] (fun U => U.heap.size = sz ∧ va_P (dC, dI) vwCl [(h0, .inr (5, [.null, .int 0, .int 0, .int 0, .int 0, .int 0]))] U.heap ∧ va_K (dC, dI) vwCl [] U ∧ va_D (fun _ => True) [(h0, .inr (5, [.null, .int 0, .int 0, .int 0, .int 0, .int 0]))] ∧ px_N U)) (va_Qv (fun (_ : Unit) => True) (fun (_ : Unit) (t : State) => ∃ (q : Nat) (cA : ClassId), va_P (dC, dI) vwCl [(h0, .inr (5, [.ref q, .int 0, .int 0, .int 0, .int 0, .int 0])), (q, .inl (cA, 0, .inl (fun _ => 0)))] t.heap ∧ va_K (dC, dI) vwCl [(cA, .byte)] t ∧ va_D (va_A [(h0, .inr (5, [.null, .int 0, .int 0, .int 0, .int 0, .int 0]))] sz) [(h0, .inr (5, [.ref q, .int 0, .int 0, .int 0, .int 0, .int 0])), (q, .inl (cA, 0, .inl (fun _ => 0)))]) (va_A [(h0, .inr (5, [.null, .int 0, .int 0, .int 0, .int 0, .int 0]))] sz)) 1 0 (va_A [(h0, .inr (5, [.null, .int 0, .int 0, .int 0, .int 0, .int 0]))] sz) := by
  refine Met.ofW (cc := prog_10_method_1_code) (maxL := 1) (ret := none) (by decide) rfl ?_
  intro p e s m args below meth c s₁ B hml hv
  obtain ⟨rfl, hsz, hP, hK, hD0, hN⟩ := hv
  have hx := B.exec
  have hb := B.bytes
  have hr := B.returns
  have htw : ∀ w ∈ px_all, w.before _ s = true := fun w h => atoms_spec (ws := px_s0) B.pre w (List.mem_cons_of_mem _ h)
  have hown : s.vm.findClass "MatroidDesk$Tokens" = some m.cls := findClass_of_methodNamed B.named
  have hlocks := B.notSynchronized
  have hin : meth.name = "<init>" := (name_of_methodNamed B.named B.method).1
  subst hsz
  have hD := hD0.self (sz := s.heap.size)
  generalize hAe : va_A [(h0, .inr (5, [.null, .int 0, .int 0, .int 0, .int 0, .int 0]))] s.heap.size = A at hD ⊢
  have hA : ∀ q : Nat, s.heap.size ≤ q → A q := fun q h => by rw [← hAe]; exact Or.inr h
  have hS : va_S A s.heap s.heap [] := va_S.rf
  have hP : va_P (dC, dI) vwCl [(h0, .inr (5, [.null, .int 0, .int 0, .int 0, .int 0, .int 0]))] s.heap := hP
  have hl := lv_entry ([.ref h0]) (n := 1) (Nat.le_of_ble_eq_true rfl)
  rw [lg_entry_eq]
  generalize (lg_sl ([.ref h0]) ++ List.replicate (1 - (lg_sl ([.ref h0])).length) Slot.unset).toArray = ls at hl ⊢
  have hl : lv_has ls 1 [(0, .ref h0)] := hl
  refine lv_aload_n hx hb px_d0_0 rfl (lv_at hl 0 rfl) ?_
  refine W.objInit hx hb hown (htw _ px_w185) (htw _ px_w1) (htw _ px_w0) rfl (by rw [hml]; exact hl.1) rfl px_d0_1 (Nat.le_of_ble_eq_true rfl) (Nat.le_of_ble_eq_true rfl) ?_
  refine W.eq (g2 := F0 m 4 ls []) rfl ?_
  refine lv_aload_n hx hb px_d0_4 rfl (lv_at hl 0 rfl) ?_
  refine lv_iconst (v := 0) hx hb px_d0_5 (by decide) ?_
  refine va_newa (atype := .byte) (ty := .byte) (n := 0) (N' := 0) (a0 := (0, .inl (fun _ => 0))) hx hb (htw _ px_w3) rfl hK hP hD hS hA (fun _ => rfl) (by decide +kernel) (by decide +kernel) (by decide +kernel) (Nat.le_of_ble_eq_true rfl) (Nat.le_of_ble_eq_true rfl) px_d0_6 (fun q cA H hK hP hD hS => ?_)
  have hP : va_P (dC, dI) vwCl [(h0, .inr (5, [.null, .int 0, .int 0, .int 0, .int 0, .int 0])), (q, .inl (cA, 0, .inl (fun _ => 0)))] H := hP
  have hD : va_D A [(h0, .inr (5, [.null, .int 0, .int 0, .int 0, .int 0, .int 0])), (q, .inl (cA, 0, .inl (fun _ => 0)))] := hD
  have hK : va_K (dC, dI) vwCl [(cA, .byte)] s := hK
  refine W.widen (k := 1) (n := 0) (Nat.le_of_ble_eq_true rfl) (Nat.le_of_ble_eq_true rfl) ?_
  refine va_put (D := (dC, dI)) (ci := 5) (v := .ref q) (ty := (.array .byte)) (C := "MatroidDesk$Tokens") (T := px_T5) (N := 6) hx hb htw px_in5 px_ty5 px_tyok5 px_nm5 hown hK hP hD hS 0 rfl rfl 0 (by decide) (htw _ px_w186) (fun _ h9 => h9) rfl (by decide +kernel) rfl rfl (Nat.le_of_ble_eq_true rfl) px_d0_8 (fun H locs hP hD hS => ?_)
  have hP : va_P (dC, dI) vwCl [(h0, .inr (5, [.ref q, .int 0, .int 0, .int 0, .int 0, .int 0])), (q, .inl (cA, 0, .inl (fun _ => 0)))] H := hP
  have hD : va_D A [(h0, .inr (5, [.ref q, .int 0, .int 0, .int 0, .int 0, .int 0])), (q, .inl (cA, 0, .inl (fun _ => 0)))] := hD
  have hP9 := hP.sub (ws' := [(h0, .inr (5, [.ref q, .int 0, .int 0, .int 0, .int 0, .int 0])), (q, .inl (cA, 0, .inl (fun _ => 0)))]) [0, 1] rfl
  have hD9 := hD.sub (ws' := [(h0, .inr (5, [.ref q, .int 0, .int 0, .int 0, .int 0, .int 0])), (q, .inl (cA, 0, .inl (fun _ => 0)))]) [0, 1] (by decide) rfl
  have hK9 := hK.sub (tys' := [(cA, .byte)]) [0] rfl
  refine W.widen (k := 1) (n := 0) (Nat.le_of_ble_eq_true rfl) (Nat.le_of_ble_eq_true rfl) ?_
  exact W.vret hx hb hr (fun t ht hW => ⟨⟨(), rfl, trivial, q, cA, by rw [ht]; exact hP9, va_K.moved hW.alike hK9, hD9⟩, hS.F ht⟩) hS.2.2 px_d0_11
set_option maxHeartbeats 4000000 in
set_option maxRecDepth 100000 in
/-- Orders() -/
theorem px_Orders_init (l : Launch) (dC : Nat → ClassId) (dI : Nat → Nat → Nat) (sz : Nat) (h0 : Nat) : Met l px_y1 px_s1 ({ frames := 1, cells := 2, slots := 246, locals := 12 }) (va_Pc [.ref h0] (fun U => U.heap.size = sz ∧ va_P (dC, dI) vwCl [(h0, .inr (1, [.null, .null, .int 0]))] U.heap ∧ va_K (dC, dI) vwCl [] U ∧ va_D (fun _ => True) [(h0, .inr (1, [.null, .null, .int 0]))] ∧ px_N U)) (va_Qv (fun (_ : Unit) => True) (fun (_ : Unit) (t : State) => ∃ (q : Nat) (q_1 : Nat) (cA : ClassId) (cA_1 : ClassId), va_P (dC, dI) vwCl [(h0, .inr (1, [.ref q, .ref q_1, .int 0])), (q, .inl (cA, 64, .inl (upd (fun _ => 0) (Int32.toNatClampNeg 1) 0))), (q_1, .inl (cA_1, 182, .inl (upd (fun _ => 0) (Int32.toNatClampNeg 1) 1)))] t.heap ∧ va_K (dC, dI) vwCl [(cA, .int), (cA_1, .int)] t ∧ va_D (va_A [(h0, .inr (1, [.null, .null, .int 0]))] sz) [(h0, .inr (1, [.ref q, .ref q_1, .int 0])), (q, .inl (cA, 64, .inl (upd (fun _ => 0) (Int32.toNatClampNeg 1) 0))), (q_1, .inl (cA_1, 182, .inl (upd (fun _ => 0) (Int32.toNatClampNeg 1) 1)))]) (va_A [(h0, .inr (1, [.null, .null, .int 0]))] sz)) 2 246 (va_A [(h0, .inr (1, [.null, .null, .int 0]))] sz) := by
  refine Met.ofW (cc := prog_5_method_1_code) (maxL := 1) (ret := none) (by decide) rfl ?_
  intro p e s m args below meth c s₁ B hml hv
  obtain ⟨rfl, hsz, hP, hK, hD0, hN⟩ := hv
  have hx := B.exec
  have hb := B.bytes
  have hr := B.returns
  have htw : ∀ w ∈ px_all, w.before _ s = true := fun w h => atoms_spec (ws := px_s1) B.pre w (List.mem_cons_of_mem _ h)
  have hown : s.vm.findClass "MatroidDesk$Orders" = some m.cls := findClass_of_methodNamed B.named
  have hlocks := B.notSynchronized
  have hin : meth.name = "<init>" := (name_of_methodNamed B.named B.method).1
  subst hsz
  have hD := hD0.self (sz := s.heap.size)
  generalize hAe : va_A [(h0, .inr (1, [.null, .null, .int 0]))] s.heap.size = A at hD ⊢
  have hA : ∀ q : Nat, s.heap.size ≤ q → A q := fun q h => by rw [← hAe]; exact Or.inr h
  have hS : va_S A s.heap s.heap [] := va_S.rf
  have hP : va_P (dC, dI) vwCl [(h0, .inr (1, [.null, .null, .int 0]))] s.heap := hP
  have hl := lv_entry ([.ref h0]) (n := 1) (Nat.le_of_ble_eq_true rfl)
  rw [lg_entry_eq]
  generalize (lg_sl ([.ref h0]) ++ List.replicate (1 - (lg_sl ([.ref h0])).length) Slot.unset).toArray = ls at hl ⊢
  have hl : lv_has ls 1 [(0, .ref h0)] := hl
  refine lv_aload_n hx hb px_d1_0 rfl (lv_at hl 0 rfl) ?_
  refine W.objInit hx hb hown (htw _ px_w189) (htw _ px_w1) (htw _ px_w0) rfl (by rw [hml]; exact hl.1) rfl px_d1_1 (Nat.le_of_ble_eq_true rfl) (Nat.le_of_ble_eq_true rfl) ?_
  refine W.eq (g2 := F0 m 4 ls []) rfl ?_
  refine lv_aload_n hx hb px_d1_4 rfl (lv_at hl 0 rfl) ?_
  refine lv_bipush (v := 64) hx hb px_d1_5 (by decide) ?_
  refine va_newa (atype := .int) (ty := .int) (n := 64) (N' := 64) (a0 := (64, .inl (fun _ => 0))) hx hb (htw _ px_w2) rfl hK hP hD hS hA (fun _ => rfl) (by decide +kernel) (by decide +kernel) (by decide +kernel) (Nat.le_of_ble_eq_true rfl) (Nat.le_of_ble_eq_true rfl) px_d1_7 (fun q cA H hK hP hD hS => ?_)
  have hP : va_P (dC, dI) vwCl [(h0, .inr (1, [.null, .null, .int 0])), (q, .inl (cA, 64, .inl (fun _ => 0)))] H := hP
  have hD : va_D A [(h0, .inr (1, [.null, .null, .int 0])), (q, .inl (cA, 64, .inl (fun _ => 0)))] := hD
  have hK : va_K (dC, dI) vwCl [(cA, .int)] s := hK
  refine W.widen (k := 1) (n := 64) (Nat.le_of_ble_eq_true rfl) (Nat.le_of_ble_eq_true rfl) ?_
  refine va_put (D := (dC, dI)) (ci := 1) (v := .ref q) (ty := (.array .int)) (C := "MatroidDesk$Orders") (T := px_T1) (N := 3) hx hb htw px_in1 px_ty1 px_tyok1 px_nm1 hown hK hP hD hS 0 rfl rfl 0 (by decide) (htw _ px_w190) (fun _ h9 => h9) rfl (by decide +kernel) rfl rfl (Nat.le_of_ble_eq_true rfl) px_d1_9 (fun H locs hP hD hS => ?_)
  have hP : va_P (dC, dI) vwCl [(h0, .inr (1, [.ref q, .null, .int 0])), (q, .inl (cA, 64, .inl (fun _ => 0)))] H := hP
  have hD : va_D A [(h0, .inr (1, [.ref q, .null, .int 0])), (q, .inl (cA, 64, .inl (fun _ => 0)))] := hD
  refine lv_aload_n hx hb px_d1_12 rfl (lv_at hl 0 rfl) ?_
  refine lv_sipush (v := 182) hx hb px_d1_13 (by decide) ?_
  refine va_newa (atype := .int) (ty := .int) (n := 182) (N' := 182) (a0 := (182, .inl (fun _ => 0))) hx hb (htw _ px_w2) rfl hK hP hD hS hA (fun _ => rfl) (by decide +kernel) (by decide +kernel) (by decide +kernel) (Nat.le_of_ble_eq_true rfl) (Nat.le_of_ble_eq_true rfl) px_d1_16 (fun q_1 cA_1 H hK hP hD hS => ?_)
  have hP : va_P (dC, dI) vwCl [(h0, .inr (1, [.ref q, .null, .int 0])), (q, .inl (cA, 64, .inl (fun _ => 0))), (q_1, .inl (cA_1, 182, .inl (fun _ => 0)))] H := hP
  have hD : va_D A [(h0, .inr (1, [.ref q, .null, .int 0])), (q, .inl (cA, 64, .inl (fun _ => 0))), (q_1, .inl (cA_1, 182, .inl (fun _ => 0)))] := hD
  have hK : va_K (dC, dI) vwCl [(cA, .int), (cA_1, .int)] s := hK
  refine W.widen (k := 2) (n := 246) (Nat.le_of_ble_eq_true rfl) (Nat.le_of_ble_eq_true rfl) ?_
  refine va_putF (D := (dC, dI)) (ci := 1) (v := .ref q_1) (ty := (.array .int)) (C := "MatroidDesk$Orders") (T := px_T1) (N := 3) hx hb htw px_in1 px_ty1 px_tyok1 px_nm1 hown hK hP hD hS 0 rfl rfl 1 (by decide) (htw _ px_w191) (fun _ h9 => h9) rfl hin rfl (by decide +kernel) rfl rfl (Nat.le_of_ble_eq_true rfl) px_d1_18 (fun H locs hP hD hS => ?_)
  have hP : va_P (dC, dI) vwCl [(h0, .inr (1, [.ref q, .ref q_1, .int 0])), (q, .inl (cA, 64, .inl (fun _ => 0))), (q_1, .inl (cA_1, 182, .inl (fun _ => 0)))] H := hP
  have hD : va_D A [(h0, .inr (1, [.ref q, .ref q_1, .int 0])), (q, .inl (cA, 64, .inl (fun _ => 0))), (q_1, .inl (cA_1, 182, .inl (fun _ => 0)))] := hD
  refine lv_aload_n hx hb px_d1_21 rfl (lv_at hl 0 rfl) ?_
  refine va_get (D := (dC, dI)) (ci := 1) (v := .ref q) (C := "MatroidDesk$Orders") (T := px_T1) (N := 3) hx hb htw px_in1 hown hK hP 0 rfl rfl 0 (by decide) (htw _ px_w190) (fun _ h9 => h9) rfl px_d1_22 ?_
  refine lv_iconst (v := 1) hx hb px_d1_25 (by decide) ?_
  refine lv_iconst (v := 0) hx hb px_d1_26 (by decide) ?_
  refine va_iast hx hb hK hP hD hS 1 0 rfl rfl (show vp_in (nI 1) 64 from vp_in_nI (by decide) (by decide)) px_d1_27 (fun H locs hP hD hS => ?_)
  have hP : va_P (dC, dI) vwCl [(h0, .inr (1, [.ref q, .ref q_1, .int 0])), (q, .inl (cA, 64, .inl (upd (fun _ => 0) (Int32.toNatClampNeg 1) 0))), (q_1, .inl (cA_1, 182, .inl (fun _ => 0)))] H := hP
  have hD : va_D A [(h0, .inr (1, [.ref q, .ref q_1, .int 0])), (q, .inl (cA, 64, .inl (upd (fun _ => 0) (Int32.toNatClampNeg 1) 0))), (q_1, .inl (cA_1, 182, .inl (fun _ => 0)))] := hD
  refine lv_aload_n hx hb px_d1_28 rfl (lv_at hl 0 rfl) ?_
  refine va_get (D := (dC, dI)) (ci := 1) (v := .ref q_1) (C := "MatroidDesk$Orders") (T := px_T1) (N := 3) hx hb htw px_in1 hown hK hP 0 rfl rfl 1 (by decide) (htw _ px_w191) (fun _ h9 => h9) rfl px_d1_29 ?_
  refine lv_iconst (v := 1) hx hb px_d1_32 (by decide) ?_
  refine lv_iconst (v := 1) hx hb px_d1_33 (by decide) ?_
  refine va_iast hx hb hK hP hD hS 2 1 rfl rfl (show vp_in (nI 1) 182 from vp_in_nI (by decide) (by decide)) px_d1_34 (fun H locs hP hD hS => ?_)
  have hP : va_P (dC, dI) vwCl [(h0, .inr (1, [.ref q, .ref q_1, .int 0])), (q, .inl (cA, 64, .inl (upd (fun _ => 0) (Int32.toNatClampNeg 1) 0))), (q_1, .inl (cA_1, 182, .inl (upd (fun _ => 0) (Int32.toNatClampNeg 1) 1)))] H := hP
  have hD : va_D A [(h0, .inr (1, [.ref q, .ref q_1, .int 0])), (q, .inl (cA, 64, .inl (upd (fun _ => 0) (Int32.toNatClampNeg 1) 0))), (q_1, .inl (cA_1, 182, .inl (upd (fun _ => 0) (Int32.toNatClampNeg 1) 1)))] := hD
  refine lv_aload_n hx hb px_d1_35 rfl (lv_at hl 0 rfl) ?_
  refine lv_iconst (v := 0) hx hb px_d1_36 (by decide) ?_
  refine va_put (D := (dC, dI)) (ci := 1) (v := .int 0) (ty := .int) (C := "MatroidDesk$Orders") (T := px_T1) (N := 3) hx hb htw px_in1 px_ty1 px_tyok1 px_nm1 hown hK hP hD hS 0 rfl rfl 2 (by decide) (htw _ px_w192) (fun _ h9 => h9) rfl (by decide +kernel) rfl rfl (Nat.le_of_ble_eq_true rfl) px_d1_37 (fun H locs hP hD hS => ?_)
  have hP : va_P (dC, dI) vwCl [(h0, .inr (1, [.ref q, .ref q_1, .int 0])), (q, .inl (cA, 64, .inl (upd (fun _ => 0) (Int32.toNatClampNeg 1) 0))), (q_1, .inl (cA_1, 182, .inl (upd (fun _ => 0) (Int32.toNatClampNeg 1) 1)))] H := hP
  have hD : va_D A [(h0, .inr (1, [.ref q, .ref q_1, .int 0])), (q, .inl (cA, 64, .inl (upd (fun _ => 0) (Int32.toNatClampNeg 1) 0))), (q_1, .inl (cA_1, 182, .inl (upd (fun _ => 0) (Int32.toNatClampNeg 1) 1)))] := hD
  have hP9 := hP.sub (ws' := [(h0, .inr (1, [.ref q, .ref q_1, .int 0])), (q, .inl (cA, 64, .inl (upd (fun _ => 0) (Int32.toNatClampNeg 1) 0))), (q_1, .inl (cA_1, 182, .inl (upd (fun _ => 0) (Int32.toNatClampNeg 1) 1)))]) [0, 1, 2] rfl
  have hD9 := hD.sub (ws' := [(h0, .inr (1, [.ref q, .ref q_1, .int 0])), (q, .inl (cA, 64, .inl (upd (fun _ => 0) (Int32.toNatClampNeg 1) 0))), (q_1, .inl (cA_1, 182, .inl (upd (fun _ => 0) (Int32.toNatClampNeg 1) 1)))]) [0, 1, 2] (by decide) rfl
  have hK9 := hK.sub (tys' := [(cA, .int), (cA_1, .int)]) [0, 1] rfl
  refine W.widen (k := 2) (n := 246) (Nat.le_of_ble_eq_true rfl) (Nat.le_of_ble_eq_true rfl) ?_
  exact W.vret hx hb hr (fun t ht hW => ⟨⟨(), rfl, trivial, q, q_1, cA, cA_1, by rw [ht]; exact hP9, va_K.moved hW.alike hK9, hD9⟩, hS.F ht⟩) hS.2.2 px_d1_40
set_option maxHeartbeats 4000000 in
set_option maxRecDepth 100000 in
/-- Wide() -/
theorem px_Wide_init (l : Launch) (dC : Nat → ClassId) (dI : Nat → Nat → Nat) (sz : Nat) (h0 : Nat) : Met l px_y2 px_s2 ({ frames := 1, cells := 0, slots := 0, locals := 12 }) (va_Pc [.ref h0] (fun U => U.heap.size = sz ∧ va_P (dC, dI) vwCl [(h0, .inr (3, [.long 0, .long 0, .long 0]))] U.heap ∧ va_K (dC, dI) vwCl [] U ∧ va_D (fun _ => True) [(h0, .inr (3, [.long 0, .long 0, .long 0]))] ∧ px_N U)) (va_Qv (fun (_ : Unit) => True) (fun (_ : Unit) (t : State) => va_P (dC, dI) vwCl [(h0, .inr (3, [.long 0, .long 0, .long 0]))] t.heap ∧ va_K (dC, dI) vwCl [] t ∧ va_D (va_A [(h0, .inr (3, [.long 0, .long 0, .long 0]))] sz) [(h0, .inr (3, [.long 0, .long 0, .long 0]))]) (va_A [(h0, .inr (3, [.long 0, .long 0, .long 0]))] sz)) 0 0 (va_A [(h0, .inr (3, [.long 0, .long 0, .long 0]))] sz) := by
  refine Met.ofW (cc := prog_12_method_1_code) (maxL := 1) (ret := none) (by decide) rfl ?_
  intro p e s m args below meth c s₁ B hml hv
  obtain ⟨rfl, hsz, hP, hK, hD0, hN⟩ := hv
  have hx := B.exec
  have hb := B.bytes
  have hr := B.returns
  have htw : ∀ w ∈ px_all, w.before _ s = true := fun w h => atoms_spec (ws := px_s2) B.pre w (List.mem_cons_of_mem _ h)
  have hown : s.vm.findClass "MatroidDesk$Wide" = some m.cls := findClass_of_methodNamed B.named
  have hlocks := B.notSynchronized
  have hin : meth.name = "<init>" := (name_of_methodNamed B.named B.method).1
  subst hsz
  have hD := hD0.self (sz := s.heap.size)
  generalize hAe : va_A [(h0, .inr (3, [.long 0, .long 0, .long 0]))] s.heap.size = A at hD ⊢
  have hA : ∀ q : Nat, s.heap.size ≤ q → A q := fun q h => by rw [← hAe]; exact Or.inr h
  have hS : va_S A s.heap s.heap [] := va_S.rf
  have hP : va_P (dC, dI) vwCl [(h0, .inr (3, [.long 0, .long 0, .long 0]))] s.heap := hP
  have hl := lv_entry ([.ref h0]) (n := 1) (Nat.le_of_ble_eq_true rfl)
  rw [lg_entry_eq]
  generalize (lg_sl ([.ref h0]) ++ List.replicate (1 - (lg_sl ([.ref h0])).length) Slot.unset).toArray = ls at hl ⊢
  have hl : lv_has ls 1 [(0, .ref h0)] := hl
  refine lv_aload_n hx hb px_d2_0 rfl (lv_at hl 0 rfl) ?_
  refine W.objInit hx hb hown (htw _ px_w195) (htw _ px_w1) (htw _ px_w0) rfl (by rw [hml]; exact hl.1) rfl px_d2_1 (Nat.le_of_ble_eq_true rfl) (Nat.le_of_ble_eq_true rfl) ?_
  refine W.eq (g2 := F0 m 4 ls []) rfl ?_
  have hP9 := hP.sub (ws' := [(h0, .inr (3, [.long 0, .long 0, .long 0]))]) [0] rfl
  have hD9 := hD.sub (ws' := [(h0, .inr (3, [.long 0, .long 0, .long 0]))]) [0] (by decide) rfl
  have hK9 := hK.sub (tys' := []) [] rfl
  refine W.widen (k := 0) (n := 0) (Nat.le_of_ble_eq_true rfl) (Nat.le_of_ble_eq_true rfl) ?_
  exact W.vret hx hb hr (fun t ht hW => ⟨⟨(), rfl, trivial, by rw [ht]; exact hP9, va_K.moved hW.alike hK9, hD9⟩, hS.F ht⟩) hS.2.2 px_d2_4
set_option maxHeartbeats 4000000 in
set_option maxRecDepth 100000 in
/-- Minors(orders) -/
theorem px_Minors_init (l : Launch) (dC : Nat → ClassId) (dI : Nat → Nat → Nat) (sz : Nat) (h0 : Nat) (o : Nat) : Met l px_y3 px_s3 ({ frames := 2, cells := 7, slots := 108, locals := 32 }) (va_Pc [.ref h0, .ref o] (fun U => U.heap.size = sz ∧ va_P (dC, dI) vwCl [(h0, .inr (2, [.null, .null, .null, .null, .null, .null, .null, .null, .int 0, .int 0, .int 0, .null]))] U.heap ∧ va_K (dC, dI) vwCl [] U ∧ va_D (fun _ => True) [(h0, .inr (2, [.null, .null, .null, .null, .null, .null, .null, .null, .int 0, .int 0, .int 0, .null]))] ∧ px_N U)) (va_Qv (fun (_ : Unit) => True) (fun (_ : Unit) (t : State) => ∃ (q : Nat) (q_1 : Nat) (q_2 : Nat) (q_3 : Nat) (q_4 : Nat) (q_5 : Nat) (q_6 : Nat) (cA : ClassId) (cA_1 : ClassId) (cA_2 : ClassId), va_P (dC, dI) vwCl [(h0, .inr (2, [.ref o, .ref q, .ref q_1, .ref q_2, .ref q_3, .ref q_4, .ref q_5, .ref q_6, .int 0, .int 0, .int 0, .null])), (q, .inr (3, [.long 0, .long 0, .long 0])), (q_1, .inr (3, [.long 0, .long 0, .long 0])), (q_2, .inr (3, [.long 0, .long 0, .long 0])), (q_3, .inr (3, [.long 0, .long 0, .long 0])), (q_4, .inl (cA, 32, .inr (.inl (fun _ => 0)))), (q_5, .inl (cA_1, 32, .inr (.inl (fun _ => 0)))), (q_6, .inl (cA_2, 32, .inr (.inl (fun _ => 0))))] t.heap ∧ va_K (dC, dI) vwCl [(cA, .long), (cA_1, .long), (cA_2, .long)] t ∧ va_D (va_A [(h0, .inr (2, [.null, .null, .null, .null, .null, .null, .null, .null, .int 0, .int 0, .int 0, .null]))] sz) [(h0, .inr (2, [.ref o, .ref q, .ref q_1, .ref q_2, .ref q_3, .ref q_4, .ref q_5, .ref q_6, .int 0, .int 0, .int 0, .null])), (q, .inr (3, [.long 0, .long 0, .long 0])), (q_1, .inr (3, [.long 0, .long 0, .long 0])), (q_2, .inr (3, [.long 0, .long 0, .long 0])), (q_3, .inr (3, [.long 0, .long 0, .long 0])), (q_4, .inl (cA, 32, .inr (.inl (fun _ => 0)))), (q_5, .inl (cA_1, 32, .inr (.inl (fun _ => 0)))), (q_6, .inl (cA_2, 32, .inr (.inl (fun _ => 0))))]) (va_A [(h0, .inr (2, [.null, .null, .null, .null, .null, .null, .null, .null, .int 0, .int 0, .int 0, .null]))] sz)) 7 108 (va_A [(h0, .inr (2, [.null, .null, .null, .null, .null, .null, .null, .null, .int 0, .int 0, .int 0, .null]))] sz) := by
  refine Met.ofW (cc := prog_4_method_1_code) (maxL := 2) (ret := none) (by decide) rfl ?_
  intro p e s m args below meth c s₁ B hml hv
  obtain ⟨rfl, hsz, hP, hK, hD0, hN⟩ := hv
  have hx := B.exec
  have hb := B.bytes
  have hr := B.returns
  have htw : ∀ w ∈ px_all, w.before _ s = true := fun w h => atoms_spec (ws := px_s3) B.pre w (List.mem_cons_of_mem _ h)
  have hown : s.vm.findClass "MatroidDesk$Minors" = some m.cls := findClass_of_methodNamed B.named
  have hlocks := B.notSynchronized
  have hin : meth.name = "<init>" := (name_of_methodNamed B.named B.method).1
  subst hsz
  have hD := hD0.self (sz := s.heap.size)
  generalize hAe : va_A [(h0, .inr (2, [.null, .null, .null, .null, .null, .null, .null, .null, .int 0, .int 0, .int 0, .null]))] s.heap.size = A at hD ⊢
  have hA : ∀ q : Nat, s.heap.size ≤ q → A q := fun q h => by rw [← hAe]; exact Or.inr h
  have hS : va_S A s.heap s.heap [] := va_S.rf
  have hP : va_P (dC, dI) vwCl [(h0, .inr (2, [.null, .null, .null, .null, .null, .null, .null, .null, .int 0, .int 0, .int 0, .null]))] s.heap := hP
  have hl := lv_entry ([.ref h0, .ref o]) (n := 2) (Nat.le_of_ble_eq_true rfl)
  rw [lg_entry_eq]
  generalize (lg_sl ([.ref h0, .ref o]) ++ List.replicate (2 - (lg_sl ([.ref h0, .ref o])).length) Slot.unset).toArray = ls at hl ⊢
  have hl : lv_has ls 2 [(0, .ref h0), (1, .ref o)] := hl
  refine lv_aload_n hx hb px_d3_0 rfl (lv_at hl 0 rfl) ?_
  refine W.objInit hx hb hown (htw _ px_w198) (htw _ px_w1) (htw _ px_w0) rfl (by rw [hml]; exact hl.1) rfl px_d3_1 (Nat.le_of_ble_eq_true rfl) (Nat.le_of_ble_eq_true rfl) ?_
  refine W.eq (g2 := F0 m 4 ls []) rfl ?_
  refine lv_aload_n hx hb px_d3_4 rfl (lv_at hl 0 rfl) ?_
  refine lv_aload_n hx hb px_d3_5 rfl (lv_at hl 1 rfl) ?_
  refine va_putF (D := (dC, dI)) (ci := 2) (v := .ref o) (ty := (.object "MatroidDesk$Orders")) (C := "MatroidDesk$Minors") (T := px_T2) (N := 12) hx hb htw px_in2 px_ty2 px_tyok2 px_nm2 hown hK hP hD hS 0 rfl rfl 0 (by decide) (htw _ px_w199) (fun _ h9 => h9) rfl hin rfl (by decide +kernel) rfl rfl (Nat.le_of_ble_eq_true rfl) px_d3_6 (fun H locs hP hD hS => ?_)
  have hP : va_P (dC, dI) vwCl [(h0, .inr (2, [.ref o, .null, .null, .null, .null, .null, .null, .null, .int 0, .int 0, .int 0, .null]))] H := hP
  have hD : va_D A [(h0, .inr (2, [.ref o, .null, .null, .null, .null, .null, .null, .null, .int 0, .int 0, .int 0, .null]))] := hD
  refine lv_aload_n hx hb px_d3_9 rfl (lv_at hl 0 rfl) ?_
  refine va_new (ci := 3) (fs := [.long 0, .long 0, .long 0]) (C := "MatroidDesk$Wide") (T := px_T3) (N := 3) hx hb htw px_in3 px_ty3 px_tyok3 hown (htw _ px_w200) (htw _ px_w42) (htw _ px_w41) hK hP hD hS hA rfl px_df3 (Nat.le_of_ble_eq_true rfl) (Nat.le_of_ble_eq_true rfl) px_d3_10 (fun q H hP hD hS => ?_)
  have hP : va_P (dC, dI) vwCl [(h0, .inr (2, [.ref o, .null, .null, .null, .null, .null, .null, .null, .int 0, .int 0, .int 0, .null])), (q, .inr (3, [.long 0, .long 0, .long 0]))] H := hP
  have hD : va_D A [(h0, .inr (2, [.ref o, .null, .null, .null, .null, .null, .null, .null, .int 0, .int 0, .int 0, .null])), (q, .inr (3, [.long 0, .long 0, .long 0]))] := hD
  refine W.widen (k := 1) (n := 3) (Nat.le_of_ble_eq_true rfl) (Nat.le_of_ble_eq_true rfl) ?_
  refine lv_dup hx hb px_d3_13 rfl ?_
  have hPc := hP.sub (ws' := [(q, .inr (3, [.long 0, .long 0, .long 0]))]) [1] rfl
  have hDc := hD.sub (ws' := [(q, .inr (3, [.long 0, .long 0, .long 0]))]) [1] (by decide) rfl
  have hKc := hK.sub (tys' := []) [] rfl
  have hFc := va_free (wc := [(q, .inr (3, [.long 0, .long 0, .long 0]))]) hD hS hA [1] rfl
  refine va_callv (va_runIN (As := []) (rest := [.ref q, .ref h0]) ⟨hx, hb, hml, hown, htw⟩ (px_Wide_init l dC dI H.size q) ⟨(va_cnB 0 htw px_g2 rfl rfl rfl (hN.2.1 ("MatroidDesk$Minors", 15, px_y2, "MatroidDesk") px_mm0) (htw _ px_w41) (by decide +kernel) ⟨Nat.le_of_ble_eq_true rfl, Nat.le_of_ble_eq_true rfl⟩), rfl, (htw _ px_w194)⟩ ⟨fun a U g mk q => by obtain ⟨q0, q1, qP, qK, qD, qN⟩ := q; exact ⟨q0, q1, qP, va_K.moved (u := U) (U := U.calling g mk a) (Vm.Alike.refl U.vm) qK, qD, qN.same rfl⟩, fun U hU hW => ⟨rfl, by rw [hU], by rw [hU]; exact hPc, va_K.moved hW.alike hKc, hDc.weaken (fun _ _ _ _ => trivial), hN.warm hW⟩⟩ rfl rfl hl.1 rfl (lv_room (Nat.le_of_ble_eq_true rfl)) px_d3_14 ⟨(Nat.le_of_ble_eq_true rfl), (Nat.le_of_ble_eq_true rfl)⟩) hS (fun q _ h => hFc q h) hFc (fun u t H1 locs ht hvm hw_14 hB hz1 hk1 hS => ?_)
  obtain ⟨hP1, hK1, hD1⟩ := hB
  rw [ht] at hP1
  have hK1 := va_K.moved hvm.symm hK1
  obtain ⟨hP, hD⟩ := va_join (wr := [(h0, .inr (2, [.ref o, .null, .null, .null, .null, .null, .null, .null, .int 0, .int 0, .int 0, .null]))]) (w1 := [(q, .inr (3, [.long 0, .long 0, .long 0]))]) hP hD [1] [0] rfl rfl (by decide) (by decide) hk1 hFc hP1 hD1
  generalize H1 = H at hP hS ⊢
  have hP : va_P (dC, dI) vwCl [(h0, .inr (2, [.ref o, .null, .null, .null, .null, .null, .null, .null, .int 0, .int 0, .int 0, .null])), (q, .inr (3, [.long 0, .long 0, .long 0]))] H := hP
  have hD : va_D A [(h0, .inr (2, [.ref o, .null, .null, .null, .null, .null, .null, .null, .int 0, .int 0, .int 0, .null])), (q, .inr (3, [.long 0, .long 0, .long 0]))] := hD
  refine va_putF (D := (dC, dI)) (ci := 2) (v := .ref q) (ty := (.object "MatroidDesk$Wide")) (C := "MatroidDesk$Minors") (T := px_T2) (N := 12) hx hb htw px_in2 px_ty2 px_tyok2 px_nm2 hown hK hP hD hS 0 rfl rfl 1 (by decide) (htw _ px_w201) (fun _ h9 => h9) rfl hin rfl (by decide +kernel) rfl rfl (Nat.le_of_ble_eq_true rfl) px_d3_17 (fun H locs hP hD hS => ?_)
  have hP : va_P (dC, dI) vwCl [(h0, .inr (2, [.ref o, .ref q, .null, .null, .null, .null, .null, .null, .int 0, .int 0, .int 0, .null])), (q, .inr (3, [.long 0, .long 0, .long 0]))] H := hP
  have hD : va_D A [(h0, .inr (2, [.ref o, .ref q, .null, .null, .null, .null, .null, .null, .int 0, .int 0, .int 0, .null])), (q, .inr (3, [.long 0, .long 0, .long 0]))] := hD
  refine lv_aload_n hx hb px_d3_20 rfl (lv_at hl 0 rfl) ?_
  refine va_new (ci := 3) (fs := [.long 0, .long 0, .long 0]) (C := "MatroidDesk$Wide") (T := px_T3) (N := 3) hx hb htw px_in3 px_ty3 px_tyok3 hown (htw _ px_w200) (htw _ px_w42) (htw _ px_w41) hK hP hD hS hA rfl px_df3 (Nat.le_of_ble_eq_true rfl) (Nat.le_of_ble_eq_true rfl) px_d3_21 (fun q_1 H hP hD hS => ?_)
  have hP : va_P (dC, dI) vwCl [(h0, .inr (2, [.ref o, .ref q, .null, .null, .null, .null, .null, .null, .int 0, .int 0, .int 0, .null])), (q, .inr (3, [.long 0, .long 0, .long 0])), (q_1, .inr (3, [.long 0, .long 0, .long 0]))] H := hP
  have hD : va_D A [(h0, .inr (2, [.ref o, .ref q, .null, .null, .null, .null, .null, .null, .int 0, .int 0, .int 0, .null])), (q, .inr (3, [.long 0, .long 0, .long 0])), (q_1, .inr (3, [.long 0, .long 0, .long 0]))] := hD
  refine W.widen (k := 2) (n := 6) (Nat.le_of_ble_eq_true rfl) (Nat.le_of_ble_eq_true rfl) ?_
  refine lv_dup hx hb px_d3_24 rfl ?_
  have hPc := hP.sub (ws' := [(q_1, .inr (3, [.long 0, .long 0, .long 0]))]) [2] rfl
  have hDc := hD.sub (ws' := [(q_1, .inr (3, [.long 0, .long 0, .long 0]))]) [2] (by decide) rfl
  have hKc := hK.sub (tys' := []) [] rfl
  have hFc := va_free (wc := [(q_1, .inr (3, [.long 0, .long 0, .long 0]))]) hD hS hA [2] rfl
  refine va_callv (va_runIN (As := []) (rest := [.ref q_1, .ref h0]) ⟨hx, hb, hml, hown, htw⟩ (px_Wide_init l dC dI H.size q_1) ⟨(va_cnB 0 htw px_g2 rfl rfl rfl (hN.2.1 ("MatroidDesk$Minors", 15, px_y2, "MatroidDesk") px_mm0) (htw _ px_w41) (by decide +kernel) ⟨Nat.le_of_ble_eq_true rfl, Nat.le_of_ble_eq_true rfl⟩), rfl, (htw _ px_w194)⟩ ⟨fun a U g mk q => by obtain ⟨q0, q1, qP, qK, qD, qN⟩ := q; exact ⟨q0, q1, qP, va_K.moved (u := U) (U := U.calling g mk a) (Vm.Alike.refl U.vm) qK, qD, qN.same rfl⟩, fun U hU hW => ⟨rfl, by rw [hU], by rw [hU]; exact hPc, va_K.moved hW.alike hKc, hDc.weaken (fun _ _ _ _ => trivial), hN.warm hW⟩⟩ rfl rfl hl.1 rfl (lv_room (Nat.le_of_ble_eq_true rfl)) px_d3_25 ⟨(Nat.le_of_ble_eq_true rfl), (Nat.le_of_ble_eq_true rfl)⟩) hS (fun q _ h => hFc q h) hFc (fun u t H1 locs ht hvm hw_25 hB hz1 hk1 hS => ?_)
  obtain ⟨hP1, hK1, hD1⟩ := hB
  rw [ht] at hP1
  have hK1 := va_K.moved hvm.symm hK1
  obtain ⟨hP, hD⟩ := va_join (wr := [(h0, .inr (2, [.ref o, .ref q, .null, .null, .null, .null, .null, .null, .int 0, .int 0, .int 0, .null])), (q, .inr (3, [.long 0, .long 0, .long 0]))]) (w1 := [(q_1, .inr (3, [.long 0, .long 0, .long 0]))]) hP hD [2] [0, 1] rfl rfl (by decide) (by decide) hk1 hFc hP1 hD1
  generalize H1 = H at hP hS ⊢
  have hP : va_P (dC, dI) vwCl [(h0, .inr (2, [.ref o, .ref q, .null, .null, .null, .null, .null, .null, .int 0, .int 0, .int 0, .null])), (q, .inr (3, [.long 0, .long 0, .long 0])), (q_1, .inr (3, [.long 0, .long 0, .long 0]))] H := hP
  have hD : va_D A [(h0, .inr (2, [.ref o, .ref q, .null, .null, .null, .null, .null, .null, .int 0, .int 0, .int 0, .null])), (q, .inr (3, [.long 0, .long 0, .long 0])), (q_1, .inr (3, [.long 0, .long 0, .long 0]))] := hD
  refine va_putF (D := (dC, dI)) (ci := 2) (v := .ref q_1) (ty := (.object "MatroidDesk$Wide")) (C := "MatroidDesk$Minors") (T := px_T2) (N := 12) hx hb htw px_in2 px_ty2 px_tyok2 px_nm2 hown hK hP hD hS 0 rfl rfl 2 (by decide) (htw _ px_w202) (fun _ h9 => h9) rfl hin rfl (by decide +kernel) rfl rfl (Nat.le_of_ble_eq_true rfl) px_d3_28 (fun H locs hP hD hS => ?_)
  have hP : va_P (dC, dI) vwCl [(h0, .inr (2, [.ref o, .ref q, .ref q_1, .null, .null, .null, .null, .null, .int 0, .int 0, .int 0, .null])), (q, .inr (3, [.long 0, .long 0, .long 0])), (q_1, .inr (3, [.long 0, .long 0, .long 0]))] H := hP
  have hD : va_D A [(h0, .inr (2, [.ref o, .ref q, .ref q_1, .null, .null, .null, .null, .null, .int 0, .int 0, .int 0, .null])), (q, .inr (3, [.long 0, .long 0, .long 0])), (q_1, .inr (3, [.long 0, .long 0, .long 0]))] := hD
  refine lv_aload_n hx hb px_d3_31 rfl (lv_at hl 0 rfl) ?_
  refine va_new (ci := 3) (fs := [.long 0, .long 0, .long 0]) (C := "MatroidDesk$Wide") (T := px_T3) (N := 3) hx hb htw px_in3 px_ty3 px_tyok3 hown (htw _ px_w200) (htw _ px_w42) (htw _ px_w41) hK hP hD hS hA rfl px_df3 (Nat.le_of_ble_eq_true rfl) (Nat.le_of_ble_eq_true rfl) px_d3_32 (fun q_2 H hP hD hS => ?_)
  have hP : va_P (dC, dI) vwCl [(h0, .inr (2, [.ref o, .ref q, .ref q_1, .null, .null, .null, .null, .null, .int 0, .int 0, .int 0, .null])), (q, .inr (3, [.long 0, .long 0, .long 0])), (q_1, .inr (3, [.long 0, .long 0, .long 0])), (q_2, .inr (3, [.long 0, .long 0, .long 0]))] H := hP
  have hD : va_D A [(h0, .inr (2, [.ref o, .ref q, .ref q_1, .null, .null, .null, .null, .null, .int 0, .int 0, .int 0, .null])), (q, .inr (3, [.long 0, .long 0, .long 0])), (q_1, .inr (3, [.long 0, .long 0, .long 0])), (q_2, .inr (3, [.long 0, .long 0, .long 0]))] := hD
  refine W.widen (k := 3) (n := 9) (Nat.le_of_ble_eq_true rfl) (Nat.le_of_ble_eq_true rfl) ?_
  refine lv_dup hx hb px_d3_35 rfl ?_
  have hPc := hP.sub (ws' := [(q_2, .inr (3, [.long 0, .long 0, .long 0]))]) [3] rfl
  have hDc := hD.sub (ws' := [(q_2, .inr (3, [.long 0, .long 0, .long 0]))]) [3] (by decide) rfl
  have hKc := hK.sub (tys' := []) [] rfl
  have hFc := va_free (wc := [(q_2, .inr (3, [.long 0, .long 0, .long 0]))]) hD hS hA [3] rfl
  refine va_callv (va_runIN (As := []) (rest := [.ref q_2, .ref h0]) ⟨hx, hb, hml, hown, htw⟩ (px_Wide_init l dC dI H.size q_2) ⟨(va_cnB 0 htw px_g2 rfl rfl rfl (hN.2.1 ("MatroidDesk$Minors", 15, px_y2, "MatroidDesk") px_mm0) (htw _ px_w41) (by decide +kernel) ⟨Nat.le_of_ble_eq_true rfl, Nat.le_of_ble_eq_true rfl⟩), rfl, (htw _ px_w194)⟩ ⟨fun a U g mk q => by obtain ⟨q0, q1, qP, qK, qD, qN⟩ := q; exact ⟨q0, q1, qP, va_K.moved (u := U) (U := U.calling g mk a) (Vm.Alike.refl U.vm) qK, qD, qN.same rfl⟩, fun U hU hW => ⟨rfl, by rw [hU], by rw [hU]; exact hPc, va_K.moved hW.alike hKc, hDc.weaken (fun _ _ _ _ => trivial), hN.warm hW⟩⟩ rfl rfl hl.1 rfl (lv_room (Nat.le_of_ble_eq_true rfl)) px_d3_36 ⟨(Nat.le_of_ble_eq_true rfl), (Nat.le_of_ble_eq_true rfl)⟩) hS (fun q _ h => hFc q h) hFc (fun u t H1 locs ht hvm hw_36 hB hz1 hk1 hS => ?_)
  obtain ⟨hP1, hK1, hD1⟩ := hB
  rw [ht] at hP1
  have hK1 := va_K.moved hvm.symm hK1
  obtain ⟨hP, hD⟩ := va_join (wr := [(h0, .inr (2, [.ref o, .ref q, .ref q_1, .null, .null, .null, .null, .null, .int 0, .int 0, .int 0, .null])), (q, .inr (3, [.long 0, .long 0, .long 0])), (q_1, .inr (3, [.long 0, .long 0, .long 0]))]) (w1 := [(q_2, .inr (3, [.long 0, .long 0, .long 0]))]) hP hD [3] [0, 1, 2] rfl rfl (by decide) (by decide) hk1 hFc hP1 hD1
  generalize H1 = H at hP hS ⊢
  have hP : va_P (dC, dI) vwCl [(h0, .inr (2, [.ref o, .ref q, .ref q_1, .null, .null, .null, .null, .null, .int 0, .int 0, .int 0, .null])), (q, .inr (3, [.long 0, .long 0, .long 0])), (q_1, .inr (3, [.long 0, .long 0, .long 0])), (q_2, .inr (3, [.long 0, .long 0, .long 0]))] H := hP
  have hD : va_D A [(h0, .inr (2, [.ref o, .ref q, .ref q_1, .null, .null, .null, .null, .null, .int 0, .int 0, .int 0, .null])), (q, .inr (3, [.long 0, .long 0, .long 0])), (q_1, .inr (3, [.long 0, .long 0, .long 0])), (q_2, .inr (3, [.long 0, .long 0, .long 0]))] := hD
  refine va_putF (D := (dC, dI)) (ci := 2) (v := .ref q_2) (ty := (.object "MatroidDesk$Wide")) (C := "MatroidDesk$Minors") (T := px_T2) (N := 12) hx hb htw px_in2 px_ty2 px_tyok2 px_nm2 hown hK hP hD hS 0 rfl rfl 3 (by decide) (htw _ px_w203) (fun _ h9 => h9) rfl hin rfl (by decide +kernel) rfl rfl (Nat.le_of_ble_eq_true rfl) px_d3_39 (fun H locs hP hD hS => ?_)
  have hP : va_P (dC, dI) vwCl [(h0, .inr (2, [.ref o, .ref q, .ref q_1, .ref q_2, .null, .null, .null, .null, .int 0, .int 0, .int 0, .null])), (q, .inr (3, [.long 0, .long 0, .long 0])), (q_1, .inr (3, [.long 0, .long 0, .long 0])), (q_2, .inr (3, [.long 0, .long 0, .long 0]))] H := hP
  have hD : va_D A [(h0, .inr (2, [.ref o, .ref q, .ref q_1, .ref q_2, .null, .null, .null, .null, .int 0, .int 0, .int 0, .null])), (q, .inr (3, [.long 0, .long 0, .long 0])), (q_1, .inr (3, [.long 0, .long 0, .long 0])), (q_2, .inr (3, [.long 0, .long 0, .long 0]))] := hD
  refine lv_aload_n hx hb px_d3_42 rfl (lv_at hl 0 rfl) ?_
  refine va_new (ci := 3) (fs := [.long 0, .long 0, .long 0]) (C := "MatroidDesk$Wide") (T := px_T3) (N := 3) hx hb htw px_in3 px_ty3 px_tyok3 hown (htw _ px_w200) (htw _ px_w42) (htw _ px_w41) hK hP hD hS hA rfl px_df3 (Nat.le_of_ble_eq_true rfl) (Nat.le_of_ble_eq_true rfl) px_d3_43 (fun q_3 H hP hD hS => ?_)
  have hP : va_P (dC, dI) vwCl [(h0, .inr (2, [.ref o, .ref q, .ref q_1, .ref q_2, .null, .null, .null, .null, .int 0, .int 0, .int 0, .null])), (q, .inr (3, [.long 0, .long 0, .long 0])), (q_1, .inr (3, [.long 0, .long 0, .long 0])), (q_2, .inr (3, [.long 0, .long 0, .long 0])), (q_3, .inr (3, [.long 0, .long 0, .long 0]))] H := hP
  have hD : va_D A [(h0, .inr (2, [.ref o, .ref q, .ref q_1, .ref q_2, .null, .null, .null, .null, .int 0, .int 0, .int 0, .null])), (q, .inr (3, [.long 0, .long 0, .long 0])), (q_1, .inr (3, [.long 0, .long 0, .long 0])), (q_2, .inr (3, [.long 0, .long 0, .long 0])), (q_3, .inr (3, [.long 0, .long 0, .long 0]))] := hD
  refine W.widen (k := 4) (n := 12) (Nat.le_of_ble_eq_true rfl) (Nat.le_of_ble_eq_true rfl) ?_
  refine lv_dup hx hb px_d3_46 rfl ?_
  have hPc := hP.sub (ws' := [(q_3, .inr (3, [.long 0, .long 0, .long 0]))]) [4] rfl
  have hDc := hD.sub (ws' := [(q_3, .inr (3, [.long 0, .long 0, .long 0]))]) [4] (by decide) rfl
  have hKc := hK.sub (tys' := []) [] rfl
  have hFc := va_free (wc := [(q_3, .inr (3, [.long 0, .long 0, .long 0]))]) hD hS hA [4] rfl
  refine va_callv (va_runIN (As := []) (rest := [.ref q_3, .ref h0]) ⟨hx, hb, hml, hown, htw⟩ (px_Wide_init l dC dI H.size q_3) ⟨(va_cnB 0 htw px_g2 rfl rfl rfl (hN.2.1 ("MatroidDesk$Minors", 15, px_y2, "MatroidDesk") px_mm0) (htw _ px_w41) (by decide +kernel) ⟨Nat.le_of_ble_eq_true rfl, Nat.le_of_ble_eq_true rfl⟩), rfl, (htw _ px_w194)⟩ ⟨fun a U g mk q => by obtain ⟨q0, q1, qP, qK, qD, qN⟩ := q; exact ⟨q0, q1, qP, va_K.moved (u := U) (U := U.calling g mk a) (Vm.Alike.refl U.vm) qK, qD, qN.same rfl⟩, fun U hU hW => ⟨rfl, by rw [hU], by rw [hU]; exact hPc, va_K.moved hW.alike hKc, hDc.weaken (fun _ _ _ _ => trivial), hN.warm hW⟩⟩ rfl rfl hl.1 rfl (lv_room (Nat.le_of_ble_eq_true rfl)) px_d3_47 ⟨(Nat.le_of_ble_eq_true rfl), (Nat.le_of_ble_eq_true rfl)⟩) hS (fun q _ h => hFc q h) hFc (fun u t H1 locs ht hvm hw_47 hB hz1 hk1 hS => ?_)
  obtain ⟨hP1, hK1, hD1⟩ := hB
  rw [ht] at hP1
  have hK1 := va_K.moved hvm.symm hK1
  obtain ⟨hP, hD⟩ := va_join (wr := [(h0, .inr (2, [.ref o, .ref q, .ref q_1, .ref q_2, .null, .null, .null, .null, .int 0, .int 0, .int 0, .null])), (q, .inr (3, [.long 0, .long 0, .long 0])), (q_1, .inr (3, [.long 0, .long 0, .long 0])), (q_2, .inr (3, [.long 0, .long 0, .long 0]))]) (w1 := [(q_3, .inr (3, [.long 0, .long 0, .long 0]))]) hP hD [4] [0, 1, 2, 3] rfl rfl (by decide) (by decide) hk1 hFc hP1 hD1
  generalize H1 = H at hP hS ⊢
  have hP : va_P (dC, dI) vwCl [(h0, .inr (2, [.ref o, .ref q, .ref q_1, .ref q_2, .null, .null, .null, .null, .int 0, .int 0, .int 0, .null])), (q, .inr (3, [.long 0, .long 0, .long 0])), (q_1, .inr (3, [.long 0, .long 0, .long 0])), (q_2, .inr (3, [.long 0, .long 0, .long 0])), (q_3, .inr (3, [.long 0, .long 0, .long 0]))] H := hP
  have hD : va_D A [(h0, .inr (2, [.ref o, .ref q, .ref q_1, .ref q_2, .null, .null, .null, .null, .int 0, .int 0, .int 0, .null])), (q, .inr (3, [.long 0, .long 0, .long 0])), (q_1, .inr (3, [.long 0, .long 0, .long 0])), (q_2, .inr (3, [.long 0, .long 0, .long 0])), (q_3, .inr (3, [.long 0, .long 0, .long 0]))] := hD
  refine va_putF (D := (dC, dI)) (ci := 2) (v := .ref q_3) (ty := (.object "MatroidDesk$Wide")) (C := "MatroidDesk$Minors") (T := px_T2) (N := 12) hx hb htw px_in2 px_ty2 px_tyok2 px_nm2 hown hK hP hD hS 0 rfl rfl 4 (by decide) (htw _ px_w204) (fun _ h9 => h9) rfl hin rfl (by decide +kernel) rfl rfl (Nat.le_of_ble_eq_true rfl) px_d3_50 (fun H locs hP hD hS => ?_)
  have hP : va_P (dC, dI) vwCl [(h0, .inr (2, [.ref o, .ref q, .ref q_1, .ref q_2, .ref q_3, .null, .null, .null, .int 0, .int 0, .int 0, .null])), (q, .inr (3, [.long 0, .long 0, .long 0])), (q_1, .inr (3, [.long 0, .long 0, .long 0])), (q_2, .inr (3, [.long 0, .long 0, .long 0])), (q_3, .inr (3, [.long 0, .long 0, .long 0]))] H := hP
  have hD : va_D A [(h0, .inr (2, [.ref o, .ref q, .ref q_1, .ref q_2, .ref q_3, .null, .null, .null, .int 0, .int 0, .int 0, .null])), (q, .inr (3, [.long 0, .long 0, .long 0])), (q_1, .inr (3, [.long 0, .long 0, .long 0])), (q_2, .inr (3, [.long 0, .long 0, .long 0])), (q_3, .inr (3, [.long 0, .long 0, .long 0]))] := hD
  refine lv_aload_n hx hb px_d3_53 rfl (lv_at hl 0 rfl) ?_
  refine lv_bipush (v := 32) hx hb px_d3_54 (by decide) ?_
  refine va_newa (atype := .long) (ty := .long) (n := 32) (N' := 32) (a0 := (32, .inr (.inl (fun _ => 0)))) hx hb (htw _ px_w4) rfl hK hP hD hS hA (fun _ => rfl) (by decide +kernel) (by decide +kernel) (by decide +kernel) (Nat.le_of_ble_eq_true rfl) (Nat.le_of_ble_eq_true rfl) px_d3_56 (fun q_4 cA H hK hP hD hS => ?_)
  have hP : va_P (dC, dI) vwCl [(h0, .inr (2, [.ref o, .ref q, .ref q_1, .ref q_2, .ref q_3, .null, .null, .null, .int 0, .int 0, .int 0, .null])), (q, .inr (3, [.long 0, .long 0, .long 0])), (q_1, .inr (3, [.long 0, .long 0, .long 0])), (q_2, .inr (3, [.long 0, .long 0, .long 0])), (q_3, .inr (3, [.long 0, .long 0, .long 0])), (q_4, .inl (cA, 32, .inr (.inl (fun _ => 0))))] H := hP
  have hD : va_D A [(h0, .inr (2, [.ref o, .ref q, .ref q_1, .ref q_2, .ref q_3, .null, .null, .null, .int 0, .int 0, .int 0, .null])), (q, .inr (3, [.long 0, .long 0, .long 0])), (q_1, .inr (3, [.long 0, .long 0, .long 0])), (q_2, .inr (3, [.long 0, .long 0, .long 0])), (q_3, .inr (3, [.long 0, .long 0, .long 0])), (q_4, .inl (cA, 32, .inr (.inl (fun _ => 0))))] := hD
  have hK : va_K (dC, dI) vwCl [(cA, .long)] s := hK
  refine W.widen (k := 5) (n := 44) (Nat.le_of_ble_eq_true rfl) (Nat.le_of_ble_eq_true rfl) ?_
  refine va_put (D := (dC, dI)) (ci := 2) (v := .ref q_4) (ty := (.array .long)) (C := "MatroidDesk$Minors") (T := px_T2) (N := 12) hx hb htw px_in2 px_ty2 px_tyok2 px_nm2 hown hK hP hD hS 0 rfl rfl 5 (by decide) (htw _ px_w205) (fun _ h9 => h9) rfl (by decide +kernel) rfl rfl (Nat.le_of_ble_eq_true rfl) px_d3_58 (fun H locs hP hD hS => ?_)
  have hP : va_P (dC, dI) vwCl [(h0, .inr (2, [.ref o, .ref q, .ref q_1, .ref q_2, .ref q_3, .ref q_4, .null, .null, .int 0, .int 0, .int 0, .null])), (q, .inr (3, [.long 0, .long 0, .long 0])), (q_1, .inr (3, [.long 0, .long 0, .long 0])), (q_2, .inr (3, [.long 0, .long 0, .long 0])), (q_3, .inr (3, [.long 0, .long 0, .long 0])), (q_4, .inl (cA, 32, .inr (.inl (fun _ => 0))))] H := hP
  have hD : va_D A [(h0, .inr (2, [.ref o, .ref q, .ref q_1, .ref q_2, .ref q_3, .ref q_4, .null, .null, .int 0, .int 0, .int 0, .null])), (q, .inr (3, [.long 0, .long 0, .long 0])), (q_1, .inr (3, [.long 0, .long 0, .long 0])), (q_2, .inr (3, [.long 0, .long 0, .long 0])), (q_3, .inr (3, [.long 0, .long 0, .long 0])), (q_4, .inl (cA, 32, .inr (.inl (fun _ => 0))))] := hD
  refine lv_aload_n hx hb px_d3_61 rfl (lv_at hl 0 rfl) ?_
  refine lv_bipush (v := 32) hx hb px_d3_62 (by decide) ?_
  refine va_newa (atype := .long) (ty := .long) (n := 32) (N' := 32) (a0 := (32, .inr (.inl (fun _ => 0)))) hx hb (htw _ px_w4) rfl hK hP hD hS hA (fun _ => rfl) (by decide +kernel) (by decide +kernel) (by decide +kernel) (Nat.le_of_ble_eq_true rfl) (Nat.le_of_ble_eq_true rfl) px_d3_64 (fun q_5 cA_1 H hK hP hD hS => ?_)
  have hP : va_P (dC, dI) vwCl [(h0, .inr (2, [.ref o, .ref q, .ref q_1, .ref q_2, .ref q_3, .ref q_4, .null, .null, .int 0, .int 0, .int 0, .null])), (q, .inr (3, [.long 0, .long 0, .long 0])), (q_1, .inr (3, [.long 0, .long 0, .long 0])), (q_2, .inr (3, [.long 0, .long 0, .long 0])), (q_3, .inr (3, [.long 0, .long 0, .long 0])), (q_4, .inl (cA, 32, .inr (.inl (fun _ => 0)))), (q_5, .inl (cA_1, 32, .inr (.inl (fun _ => 0))))] H := hP
  have hD : va_D A [(h0, .inr (2, [.ref o, .ref q, .ref q_1, .ref q_2, .ref q_3, .ref q_4, .null, .null, .int 0, .int 0, .int 0, .null])), (q, .inr (3, [.long 0, .long 0, .long 0])), (q_1, .inr (3, [.long 0, .long 0, .long 0])), (q_2, .inr (3, [.long 0, .long 0, .long 0])), (q_3, .inr (3, [.long 0, .long 0, .long 0])), (q_4, .inl (cA, 32, .inr (.inl (fun _ => 0)))), (q_5, .inl (cA_1, 32, .inr (.inl (fun _ => 0))))] := hD
  have hK : va_K (dC, dI) vwCl [(cA, .long), (cA_1, .long)] s := hK
  refine W.widen (k := 6) (n := 76) (Nat.le_of_ble_eq_true rfl) (Nat.le_of_ble_eq_true rfl) ?_
  refine va_put (D := (dC, dI)) (ci := 2) (v := .ref q_5) (ty := (.array .long)) (C := "MatroidDesk$Minors") (T := px_T2) (N := 12) hx hb htw px_in2 px_ty2 px_tyok2 px_nm2 hown hK hP hD hS 0 rfl rfl 6 (by decide) (htw _ px_w206) (fun _ h9 => h9) rfl (by decide +kernel) rfl rfl (Nat.le_of_ble_eq_true rfl) px_d3_66 (fun H locs hP hD hS => ?_)
  have hP : va_P (dC, dI) vwCl [(h0, .inr (2, [.ref o, .ref q, .ref q_1, .ref q_2, .ref q_3, .ref q_4, .ref q_5, .null, .int 0, .int 0, .int 0, .null])), (q, .inr (3, [.long 0, .long 0, .long 0])), (q_1, .inr (3, [.long 0, .long 0, .long 0])), (q_2, .inr (3, [.long 0, .long 0, .long 0])), (q_3, .inr (3, [.long 0, .long 0, .long 0])), (q_4, .inl (cA, 32, .inr (.inl (fun _ => 0)))), (q_5, .inl (cA_1, 32, .inr (.inl (fun _ => 0))))] H := hP
  have hD : va_D A [(h0, .inr (2, [.ref o, .ref q, .ref q_1, .ref q_2, .ref q_3, .ref q_4, .ref q_5, .null, .int 0, .int 0, .int 0, .null])), (q, .inr (3, [.long 0, .long 0, .long 0])), (q_1, .inr (3, [.long 0, .long 0, .long 0])), (q_2, .inr (3, [.long 0, .long 0, .long 0])), (q_3, .inr (3, [.long 0, .long 0, .long 0])), (q_4, .inl (cA, 32, .inr (.inl (fun _ => 0)))), (q_5, .inl (cA_1, 32, .inr (.inl (fun _ => 0))))] := hD
  refine lv_aload_n hx hb px_d3_69 rfl (lv_at hl 0 rfl) ?_
  refine lv_bipush (v := 32) hx hb px_d3_70 (by decide) ?_
  refine va_newa (atype := .long) (ty := .long) (n := 32) (N' := 32) (a0 := (32, .inr (.inl (fun _ => 0)))) hx hb (htw _ px_w4) rfl hK hP hD hS hA (fun _ => rfl) (by decide +kernel) (by decide +kernel) (by decide +kernel) (Nat.le_of_ble_eq_true rfl) (Nat.le_of_ble_eq_true rfl) px_d3_72 (fun q_6 cA_2 H hK hP hD hS => ?_)
  have hP : va_P (dC, dI) vwCl [(h0, .inr (2, [.ref o, .ref q, .ref q_1, .ref q_2, .ref q_3, .ref q_4, .ref q_5, .null, .int 0, .int 0, .int 0, .null])), (q, .inr (3, [.long 0, .long 0, .long 0])), (q_1, .inr (3, [.long 0, .long 0, .long 0])), (q_2, .inr (3, [.long 0, .long 0, .long 0])), (q_3, .inr (3, [.long 0, .long 0, .long 0])), (q_4, .inl (cA, 32, .inr (.inl (fun _ => 0)))), (q_5, .inl (cA_1, 32, .inr (.inl (fun _ => 0)))), (q_6, .inl (cA_2, 32, .inr (.inl (fun _ => 0))))] H := hP
  have hD : va_D A [(h0, .inr (2, [.ref o, .ref q, .ref q_1, .ref q_2, .ref q_3, .ref q_4, .ref q_5, .null, .int 0, .int 0, .int 0, .null])), (q, .inr (3, [.long 0, .long 0, .long 0])), (q_1, .inr (3, [.long 0, .long 0, .long 0])), (q_2, .inr (3, [.long 0, .long 0, .long 0])), (q_3, .inr (3, [.long 0, .long 0, .long 0])), (q_4, .inl (cA, 32, .inr (.inl (fun _ => 0)))), (q_5, .inl (cA_1, 32, .inr (.inl (fun _ => 0)))), (q_6, .inl (cA_2, 32, .inr (.inl (fun _ => 0))))] := hD
  have hK : va_K (dC, dI) vwCl [(cA, .long), (cA_1, .long), (cA_2, .long)] s := hK
  refine W.widen (k := 7) (n := 108) (Nat.le_of_ble_eq_true rfl) (Nat.le_of_ble_eq_true rfl) ?_
  refine va_put (D := (dC, dI)) (ci := 2) (v := .ref q_6) (ty := (.array .long)) (C := "MatroidDesk$Minors") (T := px_T2) (N := 12) hx hb htw px_in2 px_ty2 px_tyok2 px_nm2 hown hK hP hD hS 0 rfl rfl 7 (by decide) (htw _ px_w207) (fun _ h9 => h9) rfl (by decide +kernel) rfl rfl (Nat.le_of_ble_eq_true rfl) px_d3_74 (fun H locs hP hD hS => ?_)
  have hP : va_P (dC, dI) vwCl [(h0, .inr (2, [.ref o, .ref q, .ref q_1, .ref q_2, .ref q_3, .ref q_4, .ref q_5, .ref q_6, .int 0, .int 0, .int 0, .null])), (q, .inr (3, [.long 0, .long 0, .long 0])), (q_1, .inr (3, [.long 0, .long 0, .long 0])), (q_2, .inr (3, [.long 0, .long 0, .long 0])), (q_3, .inr (3, [.long 0, .long 0, .long 0])), (q_4, .inl (cA, 32, .inr (.inl (fun _ => 0)))), (q_5, .inl (cA_1, 32, .inr (.inl (fun _ => 0)))), (q_6, .inl (cA_2, 32, .inr (.inl (fun _ => 0))))] H := hP
  have hD : va_D A [(h0, .inr (2, [.ref o, .ref q, .ref q_1, .ref q_2, .ref q_3, .ref q_4, .ref q_5, .ref q_6, .int 0, .int 0, .int 0, .null])), (q, .inr (3, [.long 0, .long 0, .long 0])), (q_1, .inr (3, [.long 0, .long 0, .long 0])), (q_2, .inr (3, [.long 0, .long 0, .long 0])), (q_3, .inr (3, [.long 0, .long 0, .long 0])), (q_4, .inl (cA, 32, .inr (.inl (fun _ => 0)))), (q_5, .inl (cA_1, 32, .inr (.inl (fun _ => 0)))), (q_6, .inl (cA_2, 32, .inr (.inl (fun _ => 0))))] := hD
  have hP9 := hP.sub (ws' := [(h0, .inr (2, [.ref o, .ref q, .ref q_1, .ref q_2, .ref q_3, .ref q_4, .ref q_5, .ref q_6, .int 0, .int 0, .int 0, .null])), (q, .inr (3, [.long 0, .long 0, .long 0])), (q_1, .inr (3, [.long 0, .long 0, .long 0])), (q_2, .inr (3, [.long 0, .long 0, .long 0])), (q_3, .inr (3, [.long 0, .long 0, .long 0])), (q_4, .inl (cA, 32, .inr (.inl (fun _ => 0)))), (q_5, .inl (cA_1, 32, .inr (.inl (fun _ => 0)))), (q_6, .inl (cA_2, 32, .inr (.inl (fun _ => 0))))]) [0, 1, 2, 3, 4, 5, 6, 7] rfl
  have hD9 := hD.sub (ws' := [(h0, .inr (2, [.ref o, .ref q, .ref q_1, .ref q_2, .ref q_3, .ref q_4, .ref q_5, .ref q_6, .int 0, .int 0, .int 0, .null])), (q, .inr (3, [.long 0, .long 0, .long 0])), (q_1, .inr (3, [.long 0, .long 0, .long 0])), (q_2, .inr (3, [.long 0, .long 0, .long 0])), (q_3, .inr (3, [.long 0, .long 0, .long 0])), (q_4, .inl (cA, 32, .inr (.inl (fun _ => 0)))), (q_5, .inl (cA_1, 32, .inr (.inl (fun _ => 0)))), (q_6, .inl (cA_2, 32, .inr (.inl (fun _ => 0))))]) [0, 1, 2, 3, 4, 5, 6, 7] (by decide) rfl
  have hK9 := hK.sub (tys' := [(cA, .long), (cA_1, .long), (cA_2, .long)]) [0, 1, 2] rfl
  refine W.widen (k := 7) (n := 108) (Nat.le_of_ble_eq_true rfl) (Nat.le_of_ble_eq_true rfl) ?_
  exact W.vret hx hb hr (fun t ht hW => ⟨⟨(), rfl, trivial, q, q_1, q_2, q_3, q_4, q_5, q_6, cA, cA_1, cA_2, by rw [ht]; exact hP9, va_K.moved hW.alike hK9, hD9⟩, hS.F ht⟩) hS.2.2 px_d3_77
set_option maxHeartbeats 4000000 in
set_option maxRecDepth 100000 in
/-- Witness(orders) -/
theorem px_Witness_init (l : Launch) (dC : Nat → ClassId) (dI : Nat → Nat → Nat) (sz : Nat) (h0 : Nat) (o : Nat) : Met l px_y4 px_s4 ({ frames := 1, cells := 6, slots := 348, locals := 12 }) (va_Pc [.ref h0, .ref o] (fun U => U.heap.size = sz ∧ va_P (dC, dI) vwCl [(h0, .inr (4, [.null, .null, .null, .null, .null, .null, .null, .null, .null, .int 0, .int 0, .int 0, .int 0, .int 0, .int 0, .int 0, .int 0, .int 0]))] U.heap ∧ va_K (dC, dI) vwCl [] U ∧ va_D (fun _ => True) [(h0, .inr (4, [.null, .null, .null, .null, .null, .null, .null, .null, .null, .int 0, .int 0, .int 0, .int 0, .int 0, .int 0, .int 0, .int 0, .int 0]))] ∧ px_N U)) (va_Qv (fun (_ : Unit) => True) (fun (_ : Unit) (t : State) => ∃ (q : Nat) (q_1 : Nat) (q_2 : Nat) (q_3 : Nat) (q_4 : Nat) (q_5 : Nat) (cA : ClassId) (cA_1 : ClassId) (cA_2 : ClassId) (cA_3 : ClassId) (cA_4 : ClassId) (cA_5 : ClassId), va_P (dC, dI) vwCl [(h0, .inr (4, [.ref o, .ref q, .ref q_1, .ref q_2, .ref q_3, .ref q_4, .ref q_5, .null, .null, .int (-1), .int (-1), .int 0, .int 0, .int 0, .int 0, .int 0, .int 0, .int 0])), (q, .inl (cA, 12, .inl (fun _ => 0))), (q_1, .inl (cA_1, 144, .inl (fun _ => 0))), (q_2, .inl (cA_2, 144, .inl (fun _ => 0))), (q_3, .inl (cA_3, 16, .inl (fun _ => 0))), (q_4, .inl (cA_4, 16, .inl (fun _ => 0))), (q_5, .inl (cA_5, 16, .inl (fun _ => 0)))] t.heap ∧ va_K (dC, dI) vwCl [(cA, .int), (cA_1, .int), (cA_2, .int), (cA_3, .int), (cA_4, .int), (cA_5, .int)] t ∧ va_D (va_A [(h0, .inr (4, [.null, .null, .null, .null, .null, .null, .null, .null, .null, .int 0, .int 0, .int 0, .int 0, .int 0, .int 0, .int 0, .int 0, .int 0]))] sz) [(h0, .inr (4, [.ref o, .ref q, .ref q_1, .ref q_2, .ref q_3, .ref q_4, .ref q_5, .null, .null, .int (-1), .int (-1), .int 0, .int 0, .int 0, .int 0, .int 0, .int 0, .int 0])), (q, .inl (cA, 12, .inl (fun _ => 0))), (q_1, .inl (cA_1, 144, .inl (fun _ => 0))), (q_2, .inl (cA_2, 144, .inl (fun _ => 0))), (q_3, .inl (cA_3, 16, .inl (fun _ => 0))), (q_4, .inl (cA_4, 16, .inl (fun _ => 0))), (q_5, .inl (cA_5, 16, .inl (fun _ => 0)))]) (va_A [(h0, .inr (4, [.null, .null, .null, .null, .null, .null, .null, .null, .null, .int 0, .int 0, .int 0, .int 0, .int 0, .int 0, .int 0, .int 0, .int 0]))] sz)) 6 348 (va_A [(h0, .inr (4, [.null, .null, .null, .null, .null, .null, .null, .null, .null, .int 0, .int 0, .int 0, .int 0, .int 0, .int 0, .int 0, .int 0, .int 0]))] sz) := by
  refine Met.ofW (cc := prog_13_method_1_code) (maxL := 2) (ret := none) (by decide) rfl ?_
  intro p e s m args below meth c s₁ B hml hv
  obtain ⟨rfl, hsz, hP, hK, hD0, hN⟩ := hv
  have hx := B.exec
  have hb := B.bytes
  have hr := B.returns
  have htw : ∀ w ∈ px_all, w.before _ s = true := fun w h => atoms_spec (ws := px_s4) B.pre w (List.mem_cons_of_mem _ h)
  have hown : s.vm.findClass "MatroidDesk$Witness" = some m.cls := findClass_of_methodNamed B.named
  have hlocks := B.notSynchronized
  have hin : meth.name = "<init>" := (name_of_methodNamed B.named B.method).1
  subst hsz
  have hD := hD0.self (sz := s.heap.size)
  generalize hAe : va_A [(h0, .inr (4, [.null, .null, .null, .null, .null, .null, .null, .null, .null, .int 0, .int 0, .int 0, .int 0, .int 0, .int 0, .int 0, .int 0, .int 0]))] s.heap.size = A at hD ⊢
  have hA : ∀ q : Nat, s.heap.size ≤ q → A q := fun q h => by rw [← hAe]; exact Or.inr h
  have hS : va_S A s.heap s.heap [] := va_S.rf
  have hP : va_P (dC, dI) vwCl [(h0, .inr (4, [.null, .null, .null, .null, .null, .null, .null, .null, .null, .int 0, .int 0, .int 0, .int 0, .int 0, .int 0, .int 0, .int 0, .int 0]))] s.heap := hP
  have hl := lv_entry ([.ref h0, .ref o]) (n := 2) (Nat.le_of_ble_eq_true rfl)
  rw [lg_entry_eq]
  generalize (lg_sl ([.ref h0, .ref o]) ++ List.replicate (2 - (lg_sl ([.ref h0, .ref o])).length) Slot.unset).toArray = ls at hl ⊢
  have hl : lv_has ls 2 [(0, .ref h0), (1, .ref o)] := hl
  refine lv_aload_n hx hb px_d4_0 rfl (lv_at hl 0 rfl) ?_
  refine W.objInit hx hb hown (htw _ px_w210) (htw _ px_w1) (htw _ px_w0) rfl (by rw [hml]; exact hl.1) rfl px_d4_1 (Nat.le_of_ble_eq_true rfl) (Nat.le_of_ble_eq_true rfl) ?_
  refine W.eq (g2 := F0 m 4 ls []) rfl ?_
  refine lv_aload_n hx hb px_d4_4 rfl (lv_at hl 0 rfl) ?_
  refine lv_aload_n hx hb px_d4_5 rfl (lv_at hl 1 rfl) ?_
  refine va_putF (D := (dC, dI)) (ci := 4) (v := .ref o) (ty := (.object "MatroidDesk$Orders")) (C := "MatroidDesk$Witness") (T := px_T4) (N := 18) hx hb htw px_in4 px_ty4 px_tyok4 px_nm4 hown hK hP hD hS 0 rfl rfl 0 (by decide) (htw _ px_w211) (fun _ h9 => h9) rfl hin rfl (by decide +kernel) rfl rfl (Nat.le_of_ble_eq_true rfl) px_d4_6 (fun H locs hP hD hS => ?_)
  have hP : va_P (dC, dI) vwCl [(h0, .inr (4, [.ref o, .null, .null, .null, .null, .null, .null, .null, .null, .int 0, .int 0, .int 0, .int 0, .int 0, .int 0, .int 0, .int 0, .int 0]))] H := hP
  have hD : va_D A [(h0, .inr (4, [.ref o, .null, .null, .null, .null, .null, .null, .null, .null, .int 0, .int 0, .int 0, .int 0, .int 0, .int 0, .int 0, .int 0, .int 0]))] := hD
  refine lv_aload_n hx hb px_d4_9 rfl (lv_at hl 0 rfl) ?_
  refine lv_bipush (v := 12) hx hb px_d4_10 (by decide) ?_
  refine va_newa (atype := .int) (ty := .int) (n := 12) (N' := 12) (a0 := (12, .inl (fun _ => 0))) hx hb (htw _ px_w2) rfl hK hP hD hS hA (fun _ => rfl) (by decide +kernel) (by decide +kernel) (by decide +kernel) (Nat.le_of_ble_eq_true rfl) (Nat.le_of_ble_eq_true rfl) px_d4_12 (fun q cA H hK hP hD hS => ?_)
  have hP : va_P (dC, dI) vwCl [(h0, .inr (4, [.ref o, .null, .null, .null, .null, .null, .null, .null, .null, .int 0, .int 0, .int 0, .int 0, .int 0, .int 0, .int 0, .int 0, .int 0])), (q, .inl (cA, 12, .inl (fun _ => 0)))] H := hP
  have hD : va_D A [(h0, .inr (4, [.ref o, .null, .null, .null, .null, .null, .null, .null, .null, .int 0, .int 0, .int 0, .int 0, .int 0, .int 0, .int 0, .int 0, .int 0])), (q, .inl (cA, 12, .inl (fun _ => 0)))] := hD
  have hK : va_K (dC, dI) vwCl [(cA, .int)] s := hK
  refine W.widen (k := 1) (n := 12) (Nat.le_of_ble_eq_true rfl) (Nat.le_of_ble_eq_true rfl) ?_
  refine va_putF (D := (dC, dI)) (ci := 4) (v := .ref q) (ty := (.array .int)) (C := "MatroidDesk$Witness") (T := px_T4) (N := 18) hx hb htw px_in4 px_ty4 px_tyok4 px_nm4 hown hK hP hD hS 0 rfl rfl 1 (by decide) (htw _ px_w212) (fun _ h9 => h9) rfl hin rfl (by decide +kernel) rfl rfl (Nat.le_of_ble_eq_true rfl) px_d4_14 (fun H locs hP hD hS => ?_)
  have hP : va_P (dC, dI) vwCl [(h0, .inr (4, [.ref o, .ref q, .null, .null, .null, .null, .null, .null, .null, .int 0, .int 0, .int 0, .int 0, .int 0, .int 0, .int 0, .int 0, .int 0])), (q, .inl (cA, 12, .inl (fun _ => 0)))] H := hP
  have hD : va_D A [(h0, .inr (4, [.ref o, .ref q, .null, .null, .null, .null, .null, .null, .null, .int 0, .int 0, .int 0, .int 0, .int 0, .int 0, .int 0, .int 0, .int 0])), (q, .inl (cA, 12, .inl (fun _ => 0)))] := hD
  refine lv_aload_n hx hb px_d4_17 rfl (lv_at hl 0 rfl) ?_
  refine lv_sipush (v := 144) hx hb px_d4_18 (by decide) ?_
  refine va_newa (atype := .int) (ty := .int) (n := 144) (N' := 144) (a0 := (144, .inl (fun _ => 0))) hx hb (htw _ px_w2) rfl hK hP hD hS hA (fun _ => rfl) (by decide +kernel) (by decide +kernel) (by decide +kernel) (Nat.le_of_ble_eq_true rfl) (Nat.le_of_ble_eq_true rfl) px_d4_21 (fun q_1 cA_1 H hK hP hD hS => ?_)
  have hP : va_P (dC, dI) vwCl [(h0, .inr (4, [.ref o, .ref q, .null, .null, .null, .null, .null, .null, .null, .int 0, .int 0, .int 0, .int 0, .int 0, .int 0, .int 0, .int 0, .int 0])), (q, .inl (cA, 12, .inl (fun _ => 0))), (q_1, .inl (cA_1, 144, .inl (fun _ => 0)))] H := hP
  have hD : va_D A [(h0, .inr (4, [.ref o, .ref q, .null, .null, .null, .null, .null, .null, .null, .int 0, .int 0, .int 0, .int 0, .int 0, .int 0, .int 0, .int 0, .int 0])), (q, .inl (cA, 12, .inl (fun _ => 0))), (q_1, .inl (cA_1, 144, .inl (fun _ => 0)))] := hD
  have hK : va_K (dC, dI) vwCl [(cA, .int), (cA_1, .int)] s := hK
  refine W.widen (k := 2) (n := 156) (Nat.le_of_ble_eq_true rfl) (Nat.le_of_ble_eq_true rfl) ?_
  refine va_putF (D := (dC, dI)) (ci := 4) (v := .ref q_1) (ty := (.array .int)) (C := "MatroidDesk$Witness") (T := px_T4) (N := 18) hx hb htw px_in4 px_ty4 px_tyok4 px_nm4 hown hK hP hD hS 0 rfl rfl 2 (by decide) (htw _ px_w213) (fun _ h9 => h9) rfl hin rfl (by decide +kernel) rfl rfl (Nat.le_of_ble_eq_true rfl) px_d4_23 (fun H locs hP hD hS => ?_)
  have hP : va_P (dC, dI) vwCl [(h0, .inr (4, [.ref o, .ref q, .ref q_1, .null, .null, .null, .null, .null, .null, .int 0, .int 0, .int 0, .int 0, .int 0, .int 0, .int 0, .int 0, .int 0])), (q, .inl (cA, 12, .inl (fun _ => 0))), (q_1, .inl (cA_1, 144, .inl (fun _ => 0)))] H := hP
  have hD : va_D A [(h0, .inr (4, [.ref o, .ref q, .ref q_1, .null, .null, .null, .null, .null, .null, .int 0, .int 0, .int 0, .int 0, .int 0, .int 0, .int 0, .int 0, .int 0])), (q, .inl (cA, 12, .inl (fun _ => 0))), (q_1, .inl (cA_1, 144, .inl (fun _ => 0)))] := hD
  refine lv_aload_n hx hb px_d4_26 rfl (lv_at hl 0 rfl) ?_
  refine lv_sipush (v := 144) hx hb px_d4_27 (by decide) ?_
  refine va_newa (atype := .int) (ty := .int) (n := 144) (N' := 144) (a0 := (144, .inl (fun _ => 0))) hx hb (htw _ px_w2) rfl hK hP hD hS hA (fun _ => rfl) (by decide +kernel) (by decide +kernel) (by decide +kernel) (Nat.le_of_ble_eq_true rfl) (Nat.le_of_ble_eq_true rfl) px_d4_30 (fun q_2 cA_2 H hK hP hD hS => ?_)
  have hP : va_P (dC, dI) vwCl [(h0, .inr (4, [.ref o, .ref q, .ref q_1, .null, .null, .null, .null, .null, .null, .int 0, .int 0, .int 0, .int 0, .int 0, .int 0, .int 0, .int 0, .int 0])), (q, .inl (cA, 12, .inl (fun _ => 0))), (q_1, .inl (cA_1, 144, .inl (fun _ => 0))), (q_2, .inl (cA_2, 144, .inl (fun _ => 0)))] H := hP
  have hD : va_D A [(h0, .inr (4, [.ref o, .ref q, .ref q_1, .null, .null, .null, .null, .null, .null, .int 0, .int 0, .int 0, .int 0, .int 0, .int 0, .int 0, .int 0, .int 0])), (q, .inl (cA, 12, .inl (fun _ => 0))), (q_1, .inl (cA_1, 144, .inl (fun _ => 0))), (q_2, .inl (cA_2, 144, .inl (fun _ => 0)))] := hD
  have hK : va_K (dC, dI) vwCl [(cA, .int), (cA_1, .int), (cA_2, .int)] s := hK
  refine W.widen (k := 3) (n := 300) (Nat.le_of_ble_eq_true rfl) (Nat.le_of_ble_eq_true rfl) ?_
  refine va_putF (D := (dC, dI)) (ci := 4) (v := .ref q_2) (ty := (.array .int)) (C := "MatroidDesk$Witness") (T := px_T4) (N := 18) hx hb htw px_in4 px_ty4 px_tyok4 px_nm4 hown hK hP hD hS 0 rfl rfl 3 (by decide) (htw _ px_w214) (fun _ h9 => h9) rfl hin rfl (by decide +kernel) rfl rfl (Nat.le_of_ble_eq_true rfl) px_d4_32 (fun H locs hP hD hS => ?_)
  have hP : va_P (dC, dI) vwCl [(h0, .inr (4, [.ref o, .ref q, .ref q_1, .ref q_2, .null, .null, .null, .null, .null, .int 0, .int 0, .int 0, .int 0, .int 0, .int 0, .int 0, .int 0, .int 0])), (q, .inl (cA, 12, .inl (fun _ => 0))), (q_1, .inl (cA_1, 144, .inl (fun _ => 0))), (q_2, .inl (cA_2, 144, .inl (fun _ => 0)))] H := hP
  have hD : va_D A [(h0, .inr (4, [.ref o, .ref q, .ref q_1, .ref q_2, .null, .null, .null, .null, .null, .int 0, .int 0, .int 0, .int 0, .int 0, .int 0, .int 0, .int 0, .int 0])), (q, .inl (cA, 12, .inl (fun _ => 0))), (q_1, .inl (cA_1, 144, .inl (fun _ => 0))), (q_2, .inl (cA_2, 144, .inl (fun _ => 0)))] := hD
  refine lv_aload_n hx hb px_d4_35 rfl (lv_at hl 0 rfl) ?_
  refine lv_bipush (v := 16) hx hb px_d4_36 (by decide) ?_
  refine va_newa (atype := .int) (ty := .int) (n := 16) (N' := 16) (a0 := (16, .inl (fun _ => 0))) hx hb (htw _ px_w2) rfl hK hP hD hS hA (fun _ => rfl) (by decide +kernel) (by decide +kernel) (by decide +kernel) (Nat.le_of_ble_eq_true rfl) (Nat.le_of_ble_eq_true rfl) px_d4_38 (fun q_3 cA_3 H hK hP hD hS => ?_)
  have hP : va_P (dC, dI) vwCl [(h0, .inr (4, [.ref o, .ref q, .ref q_1, .ref q_2, .null, .null, .null, .null, .null, .int 0, .int 0, .int 0, .int 0, .int 0, .int 0, .int 0, .int 0, .int 0])), (q, .inl (cA, 12, .inl (fun _ => 0))), (q_1, .inl (cA_1, 144, .inl (fun _ => 0))), (q_2, .inl (cA_2, 144, .inl (fun _ => 0))), (q_3, .inl (cA_3, 16, .inl (fun _ => 0)))] H := hP
  have hD : va_D A [(h0, .inr (4, [.ref o, .ref q, .ref q_1, .ref q_2, .null, .null, .null, .null, .null, .int 0, .int 0, .int 0, .int 0, .int 0, .int 0, .int 0, .int 0, .int 0])), (q, .inl (cA, 12, .inl (fun _ => 0))), (q_1, .inl (cA_1, 144, .inl (fun _ => 0))), (q_2, .inl (cA_2, 144, .inl (fun _ => 0))), (q_3, .inl (cA_3, 16, .inl (fun _ => 0)))] := hD
  have hK : va_K (dC, dI) vwCl [(cA, .int), (cA_1, .int), (cA_2, .int), (cA_3, .int)] s := hK
  refine W.widen (k := 4) (n := 316) (Nat.le_of_ble_eq_true rfl) (Nat.le_of_ble_eq_true rfl) ?_
  refine va_put (D := (dC, dI)) (ci := 4) (v := .ref q_3) (ty := (.array .int)) (C := "MatroidDesk$Witness") (T := px_T4) (N := 18) hx hb htw px_in4 px_ty4 px_tyok4 px_nm4 hown hK hP hD hS 0 rfl rfl 4 (by decide) (htw _ px_w215) (fun _ h9 => h9) rfl (by decide +kernel) rfl rfl (Nat.le_of_ble_eq_true rfl) px_d4_40 (fun H locs hP hD hS => ?_)
  have hP : va_P (dC, dI) vwCl [(h0, .inr (4, [.ref o, .ref q, .ref q_1, .ref q_2, .ref q_3, .null, .null, .null, .null, .int 0, .int 0, .int 0, .int 0, .int 0, .int 0, .int 0, .int 0, .int 0])), (q, .inl (cA, 12, .inl (fun _ => 0))), (q_1, .inl (cA_1, 144, .inl (fun _ => 0))), (q_2, .inl (cA_2, 144, .inl (fun _ => 0))), (q_3, .inl (cA_3, 16, .inl (fun _ => 0)))] H := hP
  have hD : va_D A [(h0, .inr (4, [.ref o, .ref q, .ref q_1, .ref q_2, .ref q_3, .null, .null, .null, .null, .int 0, .int 0, .int 0, .int 0, .int 0, .int 0, .int 0, .int 0, .int 0])), (q, .inl (cA, 12, .inl (fun _ => 0))), (q_1, .inl (cA_1, 144, .inl (fun _ => 0))), (q_2, .inl (cA_2, 144, .inl (fun _ => 0))), (q_3, .inl (cA_3, 16, .inl (fun _ => 0)))] := hD
  refine lv_aload_n hx hb px_d4_43 rfl (lv_at hl 0 rfl) ?_
  refine lv_bipush (v := 16) hx hb px_d4_44 (by decide) ?_
  refine va_newa (atype := .int) (ty := .int) (n := 16) (N' := 16) (a0 := (16, .inl (fun _ => 0))) hx hb (htw _ px_w2) rfl hK hP hD hS hA (fun _ => rfl) (by decide +kernel) (by decide +kernel) (by decide +kernel) (Nat.le_of_ble_eq_true rfl) (Nat.le_of_ble_eq_true rfl) px_d4_46 (fun q_4 cA_4 H hK hP hD hS => ?_)
  have hP : va_P (dC, dI) vwCl [(h0, .inr (4, [.ref o, .ref q, .ref q_1, .ref q_2, .ref q_3, .null, .null, .null, .null, .int 0, .int 0, .int 0, .int 0, .int 0, .int 0, .int 0, .int 0, .int 0])), (q, .inl (cA, 12, .inl (fun _ => 0))), (q_1, .inl (cA_1, 144, .inl (fun _ => 0))), (q_2, .inl (cA_2, 144, .inl (fun _ => 0))), (q_3, .inl (cA_3, 16, .inl (fun _ => 0))), (q_4, .inl (cA_4, 16, .inl (fun _ => 0)))] H := hP
  have hD : va_D A [(h0, .inr (4, [.ref o, .ref q, .ref q_1, .ref q_2, .ref q_3, .null, .null, .null, .null, .int 0, .int 0, .int 0, .int 0, .int 0, .int 0, .int 0, .int 0, .int 0])), (q, .inl (cA, 12, .inl (fun _ => 0))), (q_1, .inl (cA_1, 144, .inl (fun _ => 0))), (q_2, .inl (cA_2, 144, .inl (fun _ => 0))), (q_3, .inl (cA_3, 16, .inl (fun _ => 0))), (q_4, .inl (cA_4, 16, .inl (fun _ => 0)))] := hD
  have hK : va_K (dC, dI) vwCl [(cA, .int), (cA_1, .int), (cA_2, .int), (cA_3, .int), (cA_4, .int)] s := hK
  refine W.widen (k := 5) (n := 332) (Nat.le_of_ble_eq_true rfl) (Nat.le_of_ble_eq_true rfl) ?_
  refine va_put (D := (dC, dI)) (ci := 4) (v := .ref q_4) (ty := (.array .int)) (C := "MatroidDesk$Witness") (T := px_T4) (N := 18) hx hb htw px_in4 px_ty4 px_tyok4 px_nm4 hown hK hP hD hS 0 rfl rfl 5 (by decide) (htw _ px_w216) (fun _ h9 => h9) rfl (by decide +kernel) rfl rfl (Nat.le_of_ble_eq_true rfl) px_d4_48 (fun H locs hP hD hS => ?_)
  have hP : va_P (dC, dI) vwCl [(h0, .inr (4, [.ref o, .ref q, .ref q_1, .ref q_2, .ref q_3, .ref q_4, .null, .null, .null, .int 0, .int 0, .int 0, .int 0, .int 0, .int 0, .int 0, .int 0, .int 0])), (q, .inl (cA, 12, .inl (fun _ => 0))), (q_1, .inl (cA_1, 144, .inl (fun _ => 0))), (q_2, .inl (cA_2, 144, .inl (fun _ => 0))), (q_3, .inl (cA_3, 16, .inl (fun _ => 0))), (q_4, .inl (cA_4, 16, .inl (fun _ => 0)))] H := hP
  have hD : va_D A [(h0, .inr (4, [.ref o, .ref q, .ref q_1, .ref q_2, .ref q_3, .ref q_4, .null, .null, .null, .int 0, .int 0, .int 0, .int 0, .int 0, .int 0, .int 0, .int 0, .int 0])), (q, .inl (cA, 12, .inl (fun _ => 0))), (q_1, .inl (cA_1, 144, .inl (fun _ => 0))), (q_2, .inl (cA_2, 144, .inl (fun _ => 0))), (q_3, .inl (cA_3, 16, .inl (fun _ => 0))), (q_4, .inl (cA_4, 16, .inl (fun _ => 0)))] := hD
  refine lv_aload_n hx hb px_d4_51 rfl (lv_at hl 0 rfl) ?_
  refine lv_bipush (v := 16) hx hb px_d4_52 (by decide) ?_
  refine va_newa (atype := .int) (ty := .int) (n := 16) (N' := 16) (a0 := (16, .inl (fun _ => 0))) hx hb (htw _ px_w2) rfl hK hP hD hS hA (fun _ => rfl) (by decide +kernel) (by decide +kernel) (by decide +kernel) (Nat.le_of_ble_eq_true rfl) (Nat.le_of_ble_eq_true rfl) px_d4_54 (fun q_5 cA_5 H hK hP hD hS => ?_)
  have hP : va_P (dC, dI) vwCl [(h0, .inr (4, [.ref o, .ref q, .ref q_1, .ref q_2, .ref q_3, .ref q_4, .null, .null, .null, .int 0, .int 0, .int 0, .int 0, .int 0, .int 0, .int 0, .int 0, .int 0])), (q, .inl (cA, 12, .inl (fun _ => 0))), (q_1, .inl (cA_1, 144, .inl (fun _ => 0))), (q_2, .inl (cA_2, 144, .inl (fun _ => 0))), (q_3, .inl (cA_3, 16, .inl (fun _ => 0))), (q_4, .inl (cA_4, 16, .inl (fun _ => 0))), (q_5, .inl (cA_5, 16, .inl (fun _ => 0)))] H := hP
  have hD : va_D A [(h0, .inr (4, [.ref o, .ref q, .ref q_1, .ref q_2, .ref q_3, .ref q_4, .null, .null, .null, .int 0, .int 0, .int 0, .int 0, .int 0, .int 0, .int 0, .int 0, .int 0])), (q, .inl (cA, 12, .inl (fun _ => 0))), (q_1, .inl (cA_1, 144, .inl (fun _ => 0))), (q_2, .inl (cA_2, 144, .inl (fun _ => 0))), (q_3, .inl (cA_3, 16, .inl (fun _ => 0))), (q_4, .inl (cA_4, 16, .inl (fun _ => 0))), (q_5, .inl (cA_5, 16, .inl (fun _ => 0)))] := hD
  have hK : va_K (dC, dI) vwCl [(cA, .int), (cA_1, .int), (cA_2, .int), (cA_3, .int), (cA_4, .int), (cA_5, .int)] s := hK
  refine W.widen (k := 6) (n := 348) (Nat.le_of_ble_eq_true rfl) (Nat.le_of_ble_eq_true rfl) ?_
  refine va_put (D := (dC, dI)) (ci := 4) (v := .ref q_5) (ty := (.array .int)) (C := "MatroidDesk$Witness") (T := px_T4) (N := 18) hx hb htw px_in4 px_ty4 px_tyok4 px_nm4 hown hK hP hD hS 0 rfl rfl 6 (by decide) (htw _ px_w217) (fun _ h9 => h9) rfl (by decide +kernel) rfl rfl (Nat.le_of_ble_eq_true rfl) px_d4_56 (fun H locs hP hD hS => ?_)
  have hP : va_P (dC, dI) vwCl [(h0, .inr (4, [.ref o, .ref q, .ref q_1, .ref q_2, .ref q_3, .ref q_4, .ref q_5, .null, .null, .int 0, .int 0, .int 0, .int 0, .int 0, .int 0, .int 0, .int 0, .int 0])), (q, .inl (cA, 12, .inl (fun _ => 0))), (q_1, .inl (cA_1, 144, .inl (fun _ => 0))), (q_2, .inl (cA_2, 144, .inl (fun _ => 0))), (q_3, .inl (cA_3, 16, .inl (fun _ => 0))), (q_4, .inl (cA_4, 16, .inl (fun _ => 0))), (q_5, .inl (cA_5, 16, .inl (fun _ => 0)))] H := hP
  have hD : va_D A [(h0, .inr (4, [.ref o, .ref q, .ref q_1, .ref q_2, .ref q_3, .ref q_4, .ref q_5, .null, .null, .int 0, .int 0, .int 0, .int 0, .int 0, .int 0, .int 0, .int 0, .int 0])), (q, .inl (cA, 12, .inl (fun _ => 0))), (q_1, .inl (cA_1, 144, .inl (fun _ => 0))), (q_2, .inl (cA_2, 144, .inl (fun _ => 0))), (q_3, .inl (cA_3, 16, .inl (fun _ => 0))), (q_4, .inl (cA_4, 16, .inl (fun _ => 0))), (q_5, .inl (cA_5, 16, .inl (fun _ => 0)))] := hD
  refine lv_aload_n hx hb px_d4_59 rfl (lv_at hl 0 rfl) ?_
  refine lv_null hx hb px_d4_60 ?_
  refine va_put (D := (dC, dI)) (ci := 4) (v := .null) (ty := (.object "MatroidDesk$Matroid")) (C := "MatroidDesk$Witness") (T := px_T4) (N := 18) hx hb htw px_in4 px_ty4 px_tyok4 px_nm4 hown hK hP hD hS 0 rfl rfl 7 (by decide) (htw _ px_w218) (fun _ h9 => h9) rfl (by decide +kernel) rfl rfl (Nat.le_of_ble_eq_true rfl) px_d4_61 (fun H locs hP hD hS => ?_)
  have hP : va_P (dC, dI) vwCl [(h0, .inr (4, [.ref o, .ref q, .ref q_1, .ref q_2, .ref q_3, .ref q_4, .ref q_5, .null, .null, .int 0, .int 0, .int 0, .int 0, .int 0, .int 0, .int 0, .int 0, .int 0])), (q, .inl (cA, 12, .inl (fun _ => 0))), (q_1, .inl (cA_1, 144, .inl (fun _ => 0))), (q_2, .inl (cA_2, 144, .inl (fun _ => 0))), (q_3, .inl (cA_3, 16, .inl (fun _ => 0))), (q_4, .inl (cA_4, 16, .inl (fun _ => 0))), (q_5, .inl (cA_5, 16, .inl (fun _ => 0)))] H := hP
  have hD : va_D A [(h0, .inr (4, [.ref o, .ref q, .ref q_1, .ref q_2, .ref q_3, .ref q_4, .ref q_5, .null, .null, .int 0, .int 0, .int 0, .int 0, .int 0, .int 0, .int 0, .int 0, .int 0])), (q, .inl (cA, 12, .inl (fun _ => 0))), (q_1, .inl (cA_1, 144, .inl (fun _ => 0))), (q_2, .inl (cA_2, 144, .inl (fun _ => 0))), (q_3, .inl (cA_3, 16, .inl (fun _ => 0))), (q_4, .inl (cA_4, 16, .inl (fun _ => 0))), (q_5, .inl (cA_5, 16, .inl (fun _ => 0)))] := hD
  refine lv_aload_n hx hb px_d4_64 rfl (lv_at hl 0 rfl) ?_
  refine lv_null hx hb px_d4_65 ?_
  refine va_put (D := (dC, dI)) (ci := 4) (v := .null) (ty := (.object "MatroidDesk$Matroid")) (C := "MatroidDesk$Witness") (T := px_T4) (N := 18) hx hb htw px_in4 px_ty4 px_tyok4 px_nm4 hown hK hP hD hS 0 rfl rfl 8 (by decide) (htw _ px_w219) (fun _ h9 => h9) rfl (by decide +kernel) rfl rfl (Nat.le_of_ble_eq_true rfl) px_d4_66 (fun H locs hP hD hS => ?_)
  have hP : va_P (dC, dI) vwCl [(h0, .inr (4, [.ref o, .ref q, .ref q_1, .ref q_2, .ref q_3, .ref q_4, .ref q_5, .null, .null, .int 0, .int 0, .int 0, .int 0, .int 0, .int 0, .int 0, .int 0, .int 0])), (q, .inl (cA, 12, .inl (fun _ => 0))), (q_1, .inl (cA_1, 144, .inl (fun _ => 0))), (q_2, .inl (cA_2, 144, .inl (fun _ => 0))), (q_3, .inl (cA_3, 16, .inl (fun _ => 0))), (q_4, .inl (cA_4, 16, .inl (fun _ => 0))), (q_5, .inl (cA_5, 16, .inl (fun _ => 0)))] H := hP
  have hD : va_D A [(h0, .inr (4, [.ref o, .ref q, .ref q_1, .ref q_2, .ref q_3, .ref q_4, .ref q_5, .null, .null, .int 0, .int 0, .int 0, .int 0, .int 0, .int 0, .int 0, .int 0, .int 0])), (q, .inl (cA, 12, .inl (fun _ => 0))), (q_1, .inl (cA_1, 144, .inl (fun _ => 0))), (q_2, .inl (cA_2, 144, .inl (fun _ => 0))), (q_3, .inl (cA_3, 16, .inl (fun _ => 0))), (q_4, .inl (cA_4, 16, .inl (fun _ => 0))), (q_5, .inl (cA_5, 16, .inl (fun _ => 0)))] := hD
  refine lv_aload_n hx hb px_d4_69 rfl (lv_at hl 0 rfl) ?_
  refine lv_iconst (v := (-1)) hx hb px_d4_70 (by decide) ?_
  refine va_put (D := (dC, dI)) (ci := 4) (v := .int (-1)) (ty := .int) (C := "MatroidDesk$Witness") (T := px_T4) (N := 18) hx hb htw px_in4 px_ty4 px_tyok4 px_nm4 hown hK hP hD hS 0 rfl rfl 9 (by decide) (htw _ px_w220) (fun _ h9 => h9) rfl (by decide +kernel) rfl rfl (Nat.le_of_ble_eq_true rfl) px_d4_71 (fun H locs hP hD hS => ?_)
  have hP : va_P (dC, dI) vwCl [(h0, .inr (4, [.ref o, .ref q, .ref q_1, .ref q_2, .ref q_3, .ref q_4, .ref q_5, .null, .null, .int (-1), .int 0, .int 0, .int 0, .int 0, .int 0, .int 0, .int 0, .int 0])), (q, .inl (cA, 12, .inl (fun _ => 0))), (q_1, .inl (cA_1, 144, .inl (fun _ => 0))), (q_2, .inl (cA_2, 144, .inl (fun _ => 0))), (q_3, .inl (cA_3, 16, .inl (fun _ => 0))), (q_4, .inl (cA_4, 16, .inl (fun _ => 0))), (q_5, .inl (cA_5, 16, .inl (fun _ => 0)))] H := hP
  have hD : va_D A [(h0, .inr (4, [.ref o, .ref q, .ref q_1, .ref q_2, .ref q_3, .ref q_4, .ref q_5, .null, .null, .int (-1), .int 0, .int 0, .int 0, .int 0, .int 0, .int 0, .int 0, .int 0])), (q, .inl (cA, 12, .inl (fun _ => 0))), (q_1, .inl (cA_1, 144, .inl (fun _ => 0))), (q_2, .inl (cA_2, 144, .inl (fun _ => 0))), (q_3, .inl (cA_3, 16, .inl (fun _ => 0))), (q_4, .inl (cA_4, 16, .inl (fun _ => 0))), (q_5, .inl (cA_5, 16, .inl (fun _ => 0)))] := hD
  refine lv_aload_n hx hb px_d4_74 rfl (lv_at hl 0 rfl) ?_
  refine lv_iconst (v := (-1)) hx hb px_d4_75 (by decide) ?_
  refine va_put (D := (dC, dI)) (ci := 4) (v := .int (-1)) (ty := .int) (C := "MatroidDesk$Witness") (T := px_T4) (N := 18) hx hb htw px_in4 px_ty4 px_tyok4 px_nm4 hown hK hP hD hS 0 rfl rfl 10 (by decide) (htw _ px_w221) (fun _ h9 => h9) rfl (by decide +kernel) rfl rfl (Nat.le_of_ble_eq_true rfl) px_d4_76 (fun H locs hP hD hS => ?_)
  have hP : va_P (dC, dI) vwCl [(h0, .inr (4, [.ref o, .ref q, .ref q_1, .ref q_2, .ref q_3, .ref q_4, .ref q_5, .null, .null, .int (-1), .int (-1), .int 0, .int 0, .int 0, .int 0, .int 0, .int 0, .int 0])), (q, .inl (cA, 12, .inl (fun _ => 0))), (q_1, .inl (cA_1, 144, .inl (fun _ => 0))), (q_2, .inl (cA_2, 144, .inl (fun _ => 0))), (q_3, .inl (cA_3, 16, .inl (fun _ => 0))), (q_4, .inl (cA_4, 16, .inl (fun _ => 0))), (q_5, .inl (cA_5, 16, .inl (fun _ => 0)))] H := hP
  have hD : va_D A [(h0, .inr (4, [.ref o, .ref q, .ref q_1, .ref q_2, .ref q_3, .ref q_4, .ref q_5, .null, .null, .int (-1), .int (-1), .int 0, .int 0, .int 0, .int 0, .int 0, .int 0, .int 0])), (q, .inl (cA, 12, .inl (fun _ => 0))), (q_1, .inl (cA_1, 144, .inl (fun _ => 0))), (q_2, .inl (cA_2, 144, .inl (fun _ => 0))), (q_3, .inl (cA_3, 16, .inl (fun _ => 0))), (q_4, .inl (cA_4, 16, .inl (fun _ => 0))), (q_5, .inl (cA_5, 16, .inl (fun _ => 0)))] := hD
  have hP9 := hP.sub (ws' := [(h0, .inr (4, [.ref o, .ref q, .ref q_1, .ref q_2, .ref q_3, .ref q_4, .ref q_5, .null, .null, .int (-1), .int (-1), .int 0, .int 0, .int 0, .int 0, .int 0, .int 0, .int 0])), (q, .inl (cA, 12, .inl (fun _ => 0))), (q_1, .inl (cA_1, 144, .inl (fun _ => 0))), (q_2, .inl (cA_2, 144, .inl (fun _ => 0))), (q_3, .inl (cA_3, 16, .inl (fun _ => 0))), (q_4, .inl (cA_4, 16, .inl (fun _ => 0))), (q_5, .inl (cA_5, 16, .inl (fun _ => 0)))]) [0, 1, 2, 3, 4, 5, 6] rfl
  have hD9 := hD.sub (ws' := [(h0, .inr (4, [.ref o, .ref q, .ref q_1, .ref q_2, .ref q_3, .ref q_4, .ref q_5, .null, .null, .int (-1), .int (-1), .int 0, .int 0, .int 0, .int 0, .int 0, .int 0, .int 0])), (q, .inl (cA, 12, .inl (fun _ => 0))), (q_1, .inl (cA_1, 144, .inl (fun _ => 0))), (q_2, .inl (cA_2, 144, .inl (fun _ => 0))), (q_3, .inl (cA_3, 16, .inl (fun _ => 0))), (q_4, .inl (cA_4, 16, .inl (fun _ => 0))), (q_5, .inl (cA_5, 16, .inl (fun _ => 0)))]) [0, 1, 2, 3, 4, 5, 6] (by decide) rfl
  have hK9 := hK.sub (tys' := [(cA, .int), (cA_1, .int), (cA_2, .int), (cA_3, .int), (cA_4, .int), (cA_5, .int)]) [0, 1, 2, 3, 4, 5] rfl
  refine W.widen (k := 6) (n := 348) (Nat.le_of_ble_eq_true rfl) (Nat.le_of_ble_eq_true rfl) ?_
  exact W.vret hx hb hr (fun t ht hW => ⟨⟨(), rfl, trivial, q, q_1, q_2, q_3, q_4, q_5, cA, cA_1, cA_2, cA_3, cA_4, cA_5, by rw [ht]; exact hP9, va_K.moved hW.alike hK9, hD9⟩, hS.F ht⟩) hS.2.2 px_d4_79
set_option maxHeartbeats 4000000 in
set_option maxRecDepth 100000 in
/-- Statement(tokens) -/
theorem px_Statement_init (l : Launch) (dC : Nat → ClassId) (dI : Nat → Nat → Nat) (sz : Nat) (h0 : Nat) (tk : Nat) (vS : Nat) : Met l px_y5 px_s5 ({ frames := 1, cells := 1, slots := 160, locals := 12 }) (va_Pc [.ref h0, .ref tk] (fun U => U.heap.size = sz ∧ va_P (dC, dI) vwCl [(h0, .inr (6, [.null, .null, .null, .int 0, .int 0, .int 0, .int 0, .int 0, .int 0, .int 0, .int 0, .int 0]))] U.heap ∧ va_K (dC, dI) vwCl [] U ∧ va_D (fun _ => True) [(h0, .inr (6, [.null, .null, .null, .int 0, .int 0, .int 0, .int 0, .int 0, .int 0, .int 0, .int 0, .int 0]))] ∧ px_N U ∧ va_Z "MatroidDesk$Verb" "SHOW" "LMatroidDesk$Verb;" (.ref vS) (va_A [(h0, .inr (6, [.null, .null, .null, .int 0, .int 0, .int 0, .int 0, .int 0, .int 0, .int 0, .int 0, .int 0]))] sz) U U.heap)) (va_Qv (fun (_ : Unit) => True) (fun (_ : Unit) (t : State) => ∃ (q : Nat) (cA : ClassId), va_P (dC, dI) vwCl [(h0, .inr (6, [.ref tk, .ref q, .ref vS, .int 0, .int 0, .int 0, .int 0, .int 0, .int 0, .int 0, .int 0, .int 0])), (q, .inl (cA, 160, .inl (fun _ => 0)))] t.heap ∧ va_K (dC, dI) vwCl [(cA, .int)] t ∧ va_D (va_A [(h0, .inr (6, [.null, .null, .null, .int 0, .int 0, .int 0, .int 0, .int 0, .int 0, .int 0, .int 0, .int 0]))] sz) [(h0, .inr (6, [.ref tk, .ref q, .ref vS, .int 0, .int 0, .int 0, .int 0, .int 0, .int 0, .int 0, .int 0, .int 0])), (q, .inl (cA, 160, .inl (fun _ => 0)))]) (va_A [(h0, .inr (6, [.null, .null, .null, .int 0, .int 0, .int 0, .int 0, .int 0, .int 0, .int 0, .int 0, .int 0]))] sz)) 1 160 (va_A [(h0, .inr (6, [.null, .null, .null, .int 0, .int 0, .int 0, .int 0, .int 0, .int 0, .int 0, .int 0, .int 0]))] sz) := by
  refine Met.ofW (cc := prog_9_method_1_code) (maxL := 2) (ret := none) (by decide) rfl ?_
  intro p e s m args below meth c s₁ B hml hv
  obtain ⟨rfl, hsz, hP, hK, hD0, hN, hE0⟩ := hv
  have hx := B.exec
  have hb := B.bytes
  have hr := B.returns
  have htw : ∀ w ∈ px_all, w.before _ s = true := fun w h => atoms_spec (ws := px_s5) B.pre w (List.mem_cons_of_mem _ h)
  have hown : s.vm.findClass "MatroidDesk$Statement" = some m.cls := findClass_of_methodNamed B.named
  have hlocks := B.notSynchronized
  have hin : meth.name = "<init>" := (name_of_methodNamed B.named B.method).1
  subst hsz
  have hD := hD0.self (sz := s.heap.size)
  generalize hAe : va_A [(h0, .inr (6, [.null, .null, .null, .int 0, .int 0, .int 0, .int 0, .int 0, .int 0, .int 0, .int 0, .int 0]))] s.heap.size = A at hD hE0 ⊢
  have hA : ∀ q : Nat, s.heap.size ≤ q → A q := fun q h => by rw [← hAe]; exact Or.inr h
  have hS : va_S A s.heap s.heap [] := va_S.rf
  have hP : va_P (dC, dI) vwCl [(h0, .inr (6, [.null, .null, .null, .int 0, .int 0, .int 0, .int 0, .int 0, .int 0, .int 0, .int 0, .int 0]))] s.heap := hP
  have hl := lv_entry ([.ref h0, .ref tk]) (n := 2) (Nat.le_of_ble_eq_true rfl)
  rw [lg_entry_eq]
  generalize (lg_sl ([.ref h0, .ref tk]) ++ List.replicate (2 - (lg_sl ([.ref h0, .ref tk])).length) Slot.unset).toArray = ls at hl ⊢
  have hl : lv_has ls 2 [(0, .ref h0), (1, .ref tk)] := hl
  refine lv_aload_n hx hb px_d5_0 rfl (lv_at hl 0 rfl) ?_
  refine W.objInit hx hb hown (htw _ px_w224) (htw _ px_w1) (htw _ px_w0) rfl (by rw [hml]; exact hl.1) rfl px_d5_1 (Nat.le_of_ble_eq_true rfl) (Nat.le_of_ble_eq_true rfl) ?_
  refine W.eq (g2 := F0 m 4 ls []) rfl ?_
  refine lv_aload_n hx hb px_d5_4 rfl (lv_at hl 0 rfl) ?_
  refine lv_aload_n hx hb px_d5_5 rfl (lv_at hl 1 rfl) ?_
  refine va_putF (D := (dC, dI)) (ci := 6) (v := .ref tk) (ty := (.object "MatroidDesk$Tokens")) (C := "MatroidDesk$Statement") (T := px_T6) (N := 12) hx hb htw px_in6 px_ty6 px_tyok6 px_nm6 hown hK hP hD hS 0 rfl rfl 0 (by decide) (htw _ px_w225) (fun _ h9 => h9) rfl hin rfl (by decide +kernel) rfl rfl (Nat.le_of_ble_eq_true rfl) px_d5_6 (fun H locs hP hD hS => ?_)
  have hP : va_P (dC, dI) vwCl [(h0, .inr (6, [.ref tk, .null, .null, .int 0, .int 0, .int 0, .int 0, .int 0, .int 0, .int 0, .int 0, .int 0]))] H := hP
  have hD : va_D A [(h0, .inr (6, [.ref tk, .null, .null, .int 0, .int 0, .int 0, .int 0, .int 0, .int 0, .int 0, .int 0, .int 0]))] := hD
  refine lv_aload_n hx hb px_d5_9 rfl (lv_at hl 0 rfl) ?_
  refine lv_sipush (v := 160) hx hb px_d5_10 (by decide) ?_
  refine va_newa (atype := .int) (ty := .int) (n := 160) (N' := 160) (a0 := (160, .inl (fun _ => 0))) hx hb (htw _ px_w2) rfl hK hP hD hS hA (fun _ => rfl) (by decide +kernel) (by decide +kernel) (by decide +kernel) (Nat.le_of_ble_eq_true rfl) (Nat.le_of_ble_eq_true rfl) px_d5_13 (fun q cA H hK hP hD hS => ?_)
  have hP : va_P (dC, dI) vwCl [(h0, .inr (6, [.ref tk, .null, .null, .int 0, .int 0, .int 0, .int 0, .int 0, .int 0, .int 0, .int 0, .int 0])), (q, .inl (cA, 160, .inl (fun _ => 0)))] H := hP
  have hD : va_D A [(h0, .inr (6, [.ref tk, .null, .null, .int 0, .int 0, .int 0, .int 0, .int 0, .int 0, .int 0, .int 0, .int 0])), (q, .inl (cA, 160, .inl (fun _ => 0)))] := hD
  have hK : va_K (dC, dI) vwCl [(cA, .int)] s := hK
  refine W.widen (k := 1) (n := 160) (Nat.le_of_ble_eq_true rfl) (Nat.le_of_ble_eq_true rfl) ?_
  refine va_putF (D := (dC, dI)) (ci := 6) (v := .ref q) (ty := (.array .int)) (C := "MatroidDesk$Statement") (T := px_T6) (N := 12) hx hb htw px_in6 px_ty6 px_tyok6 px_nm6 hown hK hP hD hS 0 rfl rfl 1 (by decide) (htw _ px_w226) (fun _ h9 => h9) rfl hin rfl (by decide +kernel) rfl rfl (Nat.le_of_ble_eq_true rfl) px_d5_15 (fun H locs hP hD hS => ?_)
  have hP : va_P (dC, dI) vwCl [(h0, .inr (6, [.ref tk, .ref q, .null, .int 0, .int 0, .int 0, .int 0, .int 0, .int 0, .int 0, .int 0, .int 0])), (q, .inl (cA, 160, .inl (fun _ => 0)))] H := hP
  have hD : va_D A [(h0, .inr (6, [.ref tk, .ref q, .null, .int 0, .int 0, .int 0, .int 0, .int 0, .int 0, .int 0, .int 0, .int 0])), (q, .inl (cA, 160, .inl (fun _ => 0)))] := hD
  refine lv_aload_n hx hb px_d5_18 rfl (lv_at hl 0 rfl) ?_
  refine va_gets (v := .ref vS) hx hb hE0 hS hown (htw _ px_w227) (fun _ h9 => h9) px_d5_19 ?_
  refine va_put (D := (dC, dI)) (ci := 6) (v := .ref vS) (ty := (.object "MatroidDesk$Verb")) (C := "MatroidDesk$Statement") (T := px_T6) (N := 12) hx hb htw px_in6 px_ty6 px_tyok6 px_nm6 hown hK hP hD hS 0 rfl rfl 2 (by decide) (htw _ px_w228) (fun _ h9 => h9) rfl (by decide +kernel) rfl rfl (Nat.le_of_ble_eq_true rfl) px_d5_22 (fun H locs hP hD hS => ?_)
  have hP : va_P (dC, dI) vwCl [(h0, .inr (6, [.ref tk, .ref q, .ref vS, .int 0, .int 0, .int 0, .int 0, .int 0, .int 0, .int 0, .int 0, .int 0])), (q, .inl (cA, 160, .inl (fun _ => 0)))] H := hP
  have hD : va_D A [(h0, .inr (6, [.ref tk, .ref q, .ref vS, .int 0, .int 0, .int 0, .int 0, .int 0, .int 0, .int 0, .int 0, .int 0])), (q, .inl (cA, 160, .inl (fun _ => 0)))] := hD
  have hP9 := hP.sub (ws' := [(h0, .inr (6, [.ref tk, .ref q, .ref vS, .int 0, .int 0, .int 0, .int 0, .int 0, .int 0, .int 0, .int 0, .int 0])), (q, .inl (cA, 160, .inl (fun _ => 0)))]) [0, 1] rfl
  have hD9 := hD.sub (ws' := [(h0, .inr (6, [.ref tk, .ref q, .ref vS, .int 0, .int 0, .int 0, .int 0, .int 0, .int 0, .int 0, .int 0, .int 0])), (q, .inl (cA, 160, .inl (fun _ => 0)))]) [0, 1] (by decide) rfl
  have hK9 := hK.sub (tys' := [(cA, .int)]) [0] rfl
  refine W.widen (k := 1) (n := 160) (Nat.le_of_ble_eq_true rfl) (Nat.le_of_ble_eq_true rfl) ?_
  exact W.vret hx hb hr (fun t ht hW => ⟨⟨(), rfl, trivial, q, cA, by rw [ht]; exact hP9, va_K.moved hW.alike hK9, hD9⟩, hS.F ht⟩) hS.2.2 px_d5_25
set_option maxHeartbeats 4000000 in
set_option maxRecDepth 100000 in
/-- Product() -/
theorem px_Product_init (l : Launch) (dC : Nat → ClassId) (dI : Nat → Nat → Nat) (sz : Nat) (h0 : Nat) : Met l px_y6 px_s6 ({ frames := 1, cells := 2, slots := 304, locals := 12 }) (va_Pc [.ref h0] (fun U => U.heap.size = sz ∧ va_P (dC, dI) vwCl [(h0, .inr (7, [.null, .null, .int 0, .int 0]))] U.heap ∧ va_K (dC, dI) vwCl [] U ∧ va_D (fun _ => True) [(h0, .inr (7, [.null, .null, .int 0, .int 0]))] ∧ px_N U)) (va_Qv (fun (_ : Unit) => True) (fun (_ : Unit) (t : State) => ∃ (q : Nat) (q_1 : Nat) (cA : ClassId) (cA_1 : ClassId), va_P (dC, dI) vwCl [(h0, .inr (7, [.ref q, .ref q_1, .int 0, .int 0])), (q, .inl (cA, 256, .inl (fun _ => 0))), (q_1, .inl (cA_1, 48, .inl (fun _ => 0)))] t.heap ∧ va_K (dC, dI) vwCl [(cA, .byte), (cA_1, .byte)] t ∧ va_D (va_A [(h0, .inr (7, [.null, .null, .int 0, .int 0]))] sz) [(h0, .inr (7, [.ref q, .ref q_1, .int 0, .int 0])), (q, .inl (cA, 256, .inl (fun _ => 0))), (q_1, .inl (cA_1, 48, .inl (fun _ => 0)))]) (va_A [(h0, .inr (7, [.null, .null, .int 0, .int 0]))] sz)) 2 304 (va_A [(h0, .inr (7, [.null, .null, .int 0, .int 0]))] sz) := by
  refine Met.ofW (cc := prog_7_method_1_code) (maxL := 1) (ret := none) (by decide) rfl ?_
  intro p e s m args below meth c s₁ B hml hv
  obtain ⟨rfl, hsz, hP, hK, hD0, hN⟩ := hv
  have hx := B.exec
  have hb := B.bytes
  have hr := B.returns
  have htw : ∀ w ∈ px_all, w.before _ s = true := fun w h => atoms_spec (ws := px_s6) B.pre w (List.mem_cons_of_mem _ h)
  have hown : s.vm.findClass "MatroidDesk$Product" = some m.cls := findClass_of_methodNamed B.named
  have hlocks := B.notSynchronized
  have hin : meth.name = "<init>" := (name_of_methodNamed B.named B.method).1
  subst hsz
  have hD := hD0.self (sz := s.heap.size)
  generalize hAe : va_A [(h0, .inr (7, [.null, .null, .int 0, .int 0]))] s.heap.size = A at hD ⊢
  have hA : ∀ q : Nat, s.heap.size ≤ q → A q := fun q h => by rw [← hAe]; exact Or.inr h
  have hS : va_S A s.heap s.heap [] := va_S.rf
  have hP : va_P (dC, dI) vwCl [(h0, .inr (7, [.null, .null, .int 0, .int 0]))] s.heap := hP
  have hl := lv_entry ([.ref h0]) (n := 1) (Nat.le_of_ble_eq_true rfl)
  rw [lg_entry_eq]
  generalize (lg_sl ([.ref h0]) ++ List.replicate (1 - (lg_sl ([.ref h0])).length) Slot.unset).toArray = ls at hl ⊢
  have hl : lv_has ls 1 [(0, .ref h0)] := hl
  refine lv_aload_n hx hb px_d6_0 rfl (lv_at hl 0 rfl) ?_
  refine W.objInit hx hb hown (htw _ px_w231) (htw _ px_w1) (htw _ px_w0) rfl (by rw [hml]; exact hl.1) rfl px_d6_1 (Nat.le_of_ble_eq_true rfl) (Nat.le_of_ble_eq_true rfl) ?_
  refine W.eq (g2 := F0 m 4 ls []) rfl ?_
  refine lv_aload_n hx hb px_d6_4 rfl (lv_at hl 0 rfl) ?_
  refine lv_sipush (v := 256) hx hb px_d6_5 (by decide) ?_
  refine va_newa (atype := .byte) (ty := .byte) (n := 256) (N' := 256) (a0 := (256, .inl (fun _ => 0))) hx hb (htw _ px_w3) rfl hK hP hD hS hA (fun _ => rfl) (by decide +kernel) (by decide +kernel) (by decide +kernel) (Nat.le_of_ble_eq_true rfl) (Nat.le_of_ble_eq_true rfl) px_d6_8 (fun q cA H hK hP hD hS => ?_)
  have hP : va_P (dC, dI) vwCl [(h0, .inr (7, [.null, .null, .int 0, .int 0])), (q, .inl (cA, 256, .inl (fun _ => 0)))] H := hP
  have hD : va_D A [(h0, .inr (7, [.null, .null, .int 0, .int 0])), (q, .inl (cA, 256, .inl (fun _ => 0)))] := hD
  have hK : va_K (dC, dI) vwCl [(cA, .byte)] s := hK
  refine W.widen (k := 1) (n := 256) (Nat.le_of_ble_eq_true rfl) (Nat.le_of_ble_eq_true rfl) ?_
  refine va_put (D := (dC, dI)) (ci := 7) (v := .ref q) (ty := (.array .byte)) (C := "MatroidDesk$Product") (T := px_T7) (N := 4) hx hb htw px_in7 px_ty7 px_tyok7 px_nm7 hown hK hP hD hS 0 rfl rfl 0 (by decide) (htw _ px_w232) (fun _ h9 => h9) rfl (by decide +kernel) rfl rfl (Nat.le_of_ble_eq_true rfl) px_d6_10 (fun H locs hP hD hS => ?_)
  have hP : va_P (dC, dI) vwCl [(h0, .inr (7, [.ref q, .null, .int 0, .int 0])), (q, .inl (cA, 256, .inl (fun _ => 0)))] H := hP
  have hD : va_D A [(h0, .inr (7, [.ref q, .null, .int 0, .int 0])), (q, .inl (cA, 256, .inl (fun _ => 0)))] := hD
  refine lv_aload_n hx hb px_d6_13 rfl (lv_at hl 0 rfl) ?_
  refine lv_bipush (v := 48) hx hb px_d6_14 (by decide) ?_
  refine va_newa (atype := .byte) (ty := .byte) (n := 48) (N' := 48) (a0 := (48, .inl (fun _ => 0))) hx hb (htw _ px_w3) rfl hK hP hD hS hA (fun _ => rfl) (by decide +kernel) (by decide +kernel) (by decide +kernel) (Nat.le_of_ble_eq_true rfl) (Nat.le_of_ble_eq_true rfl) px_d6_16 (fun q_1 cA_1 H hK hP hD hS => ?_)
  have hP : va_P (dC, dI) vwCl [(h0, .inr (7, [.ref q, .null, .int 0, .int 0])), (q, .inl (cA, 256, .inl (fun _ => 0))), (q_1, .inl (cA_1, 48, .inl (fun _ => 0)))] H := hP
  have hD : va_D A [(h0, .inr (7, [.ref q, .null, .int 0, .int 0])), (q, .inl (cA, 256, .inl (fun _ => 0))), (q_1, .inl (cA_1, 48, .inl (fun _ => 0)))] := hD
  have hK : va_K (dC, dI) vwCl [(cA, .byte), (cA_1, .byte)] s := hK
  refine W.widen (k := 2) (n := 304) (Nat.le_of_ble_eq_true rfl) (Nat.le_of_ble_eq_true rfl) ?_
  refine va_putF (D := (dC, dI)) (ci := 7) (v := .ref q_1) (ty := (.array .byte)) (C := "MatroidDesk$Product") (T := px_T7) (N := 4) hx hb htw px_in7 px_ty7 px_tyok7 px_nm7 hown hK hP hD hS 0 rfl rfl 1 (by decide) (htw _ px_w233) (fun _ h9 => h9) rfl hin rfl (by decide +kernel) rfl rfl (Nat.le_of_ble_eq_true rfl) px_d6_18 (fun H locs hP hD hS => ?_)
  have hP : va_P (dC, dI) vwCl [(h0, .inr (7, [.ref q, .ref q_1, .int 0, .int 0])), (q, .inl (cA, 256, .inl (fun _ => 0))), (q_1, .inl (cA_1, 48, .inl (fun _ => 0)))] H := hP
  have hD : va_D A [(h0, .inr (7, [.ref q, .ref q_1, .int 0, .int 0])), (q, .inl (cA, 256, .inl (fun _ => 0))), (q_1, .inl (cA_1, 48, .inl (fun _ => 0)))] := hD
  have hP9 := hP.sub (ws' := [(h0, .inr (7, [.ref q, .ref q_1, .int 0, .int 0])), (q, .inl (cA, 256, .inl (fun _ => 0))), (q_1, .inl (cA_1, 48, .inl (fun _ => 0)))]) [0, 1, 2] rfl
  have hD9 := hD.sub (ws' := [(h0, .inr (7, [.ref q, .ref q_1, .int 0, .int 0])), (q, .inl (cA, 256, .inl (fun _ => 0))), (q_1, .inl (cA_1, 48, .inl (fun _ => 0)))]) [0, 1, 2] (by decide) rfl
  have hK9 := hK.sub (tys' := [(cA, .byte), (cA_1, .byte)]) [0, 1] rfl
  refine W.widen (k := 2) (n := 304) (Nat.le_of_ble_eq_true rfl) (Nat.le_of_ble_eq_true rfl) ?_
  exact W.vret hx hb hr (fun t ht hW => ⟨⟨(), rfl, trivial, q, q_1, cA, cA_1, by rw [ht]; exact hP9, va_K.moved hW.alike hK9, hD9⟩, hS.F ht⟩) hS.2.2 px_d6_21
