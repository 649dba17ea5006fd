set_option maxHeartbeats 4000000 in
set_option maxRecDepth 100000 in
/-- skipBlanks() -/
theorem px_skipBlanks (l : Launch) (dC : Nat → ClassId) (dI : Nat → Nat → Nat) (sz : Nat) (h0 : Nat) (q7 : Nat) : Met l px_y14 px_s14 ({ frames := 0, cells := 0, slots := 0, locals := 0 }) (va_Pc [.ref h0] (fun U => U.heap.size = sz ∧ va_P (dC, dI) vwCl [(h0, .inr (5, [.ref q7, .int 0, .int 0, .int 0, .int 0, .int 0]))] U.heap ∧ va_K (dC, dI) vwCl [] U ∧ va_D (fun _ => True) [(h0, .inr (5, [.ref q7, .int 0, .int 0, .int 0, .int 0, .int 0]))] ∧ px_N U)) (va_Qv (fun (_ : Unit) => True) (fun (_ : Unit) (t : State) => va_P (dC, dI) vwCl [(h0, .inr (5, [.ref q7, .int 0, .int 0, .int 0, .int 0, .int 0]))] t.heap ∧ va_K (dC, dI) vwCl [] t ∧ va_D (va_A [(h0, .inr (5, [.ref q7, .int 0, .int 0, .int 0, .int 0, .int 0]))] sz) [(h0, .inr (5, [.ref q7, .int 0, .int 0, .int 0, .int 0, .int 0]))]) (va_A [(h0, .inr (5, [.ref q7, .int 0, .int 0, .int 0, .int 0, .int 0]))] sz)) 0 0 (va_A [(h0, .inr (5, [.ref q7, .int 0, .int 0, .int 0, .int 0, .int 0]))] sz) := by
  refine Met.ofW (cc := prog_10_method_6_code) (maxL := 3) (ret := none) (by decide) rfl ?_
  intro p e s m args below meth c s₁ B hml hv
  obtain ⟨rfl, hsz, hP, hK, hD0, hN⟩ := hv
  have hx := B.exec
  have hb := B.bytes
  have hr := B.returns
  have htw : ∀ w ∈ px_all, w.before _ s = true := fun w h => atoms_spec (ws := px_s14) B.pre w (List.mem_cons_of_mem _ h)
  have hown : s.vm.findClass "MatroidDesk$Tokens" = some m.cls := findClass_of_methodNamed B.named
  have hlocks := B.notSynchronized
  subst hsz
  have hD := hD0.self (sz := s.heap.size)
  generalize hAe : va_A [(h0, .inr (5, [.ref q7, .int 0, .int 0, .int 0, .int 0, .int 0]))] s.heap.size = A at hD ⊢
  have hA : ∀ q : Nat, s.heap.size ≤ q → A q := fun q h => by rw [← hAe]; exact Or.inr h
  have hS : va_S A s.heap s.heap [] := va_S.rf
  have hP : va_P (dC, dI) vwCl [(h0, .inr (5, [.ref q7, .int 0, .int 0, .int 0, .int 0, .int 0]))] s.heap := hP
  have hl := lv_entry ([.ref h0]) (n := 3) (Nat.le_of_ble_eq_true rfl)
  rw [lg_entry_eq]
  generalize (lg_sl ([.ref h0]) ++ List.replicate (3 - (lg_sl ([.ref h0])).length) Slot.unset).toArray = ls at hl ⊢
  have hl : lv_has ls 3 [(0, .ref h0)] := hl
  refine lv_iconst (v := 0) hx hb px_d14_0 (by decide) ?_
  refine lv_istore_n (lv' := [(1, .int 0), (0, .ref h0)]) hx hb px_d14_1 rfl hl (by decide) rfl (fun ls hl => ?_)
  refine lv_aload_n hx hb px_d14_2 rfl (lv_at hl 1 rfl) ?_
  refine va_get (D := (dC, dI)) (ci := 5) (v := .int 0) (C := "MatroidDesk$Tokens") (T := px_T5) (N := 6) hx hb htw px_in5 hown hK hP 0 rfl rfl 2 (by decide) (htw _ px_w304) (fun _ h9 => h9) rfl px_d14_3 ?_
  refine lv_aload_n hx hb px_d14_6 rfl (lv_at hl 1 rfl) ?_
  refine va_get (D := (dC, dI)) (ci := 5) (v := .int 0) (C := "MatroidDesk$Tokens") (T := px_T5) (N := 6) hx hb htw px_in5 hown hK hP 0 rfl rfl 1 (by decide) (htw _ px_w305) (fun _ h9 => h9) rfl px_d14_7 ?_
  refine lv_icmp_ge (tgt := 87) hx hb px_d14_10 (by decide) (fun _ => ?_) (fun h9 => absurd (by decide +kernel) h9)
  have hP9 := hP.sub (ws' := [(h0, .inr (5, [.ref q7, .int 0, .int 0, .int 0, .int 0, .int 0]))]) [0] rfl
  have hD9 := hD.sub (ws' := [(h0, .inr (5, [.ref q7, .int 0, .int 0, .int 0, .int 0, .int 0]))]) [0] (by decide) rfl
  have hK9 := hK.sub (tys' := []) [] rfl
  refine W.widen (k := 0) (n := 0) (Nat.le_of_ble_eq_true rfl) (Nat.le_of_ble_eq_true rfl) ?_
  exact W.vret hx hb hr (fun t ht hW => ⟨⟨(), rfl, trivial, by rw [ht]; exact hP9, va_K.moved hW.alike hK9, hD9⟩, hS.F ht⟩) hS.2.2 px_d14_87
set_option maxHeartbeats 4000000 in
set_option maxRecDepth 100000 in
/-- step() -/
theorem px_step (l : Launch) (dC : Nat → ClassId) (dI : Nat → Nat → Nat) (sz : Nat) (h0 : Nat) (q7 : Nat) : Met l px_y15 px_s15 ({ frames := 1, cells := 0, slots := 0, locals := 22 }) (va_Pc [.ref h0] (fun U => U.heap.size = sz ∧ va_P (dC, dI) vwCl [(h0, .inr (5, [.ref q7, .int 0, .int 0, .int 0, .int 0, .int 0]))] U.heap ∧ va_K (dC, dI) vwCl [] U ∧ va_D (fun _ => True) [(h0, .inr (5, [.ref q7, .int 0, .int 0, .int 0, .int 0, .int 0]))] ∧ px_N U)) (va_Qv (fun (_ : Unit) => True) (fun (_ : Unit) (t : State) => va_P (dC, dI) vwCl [(h0, .inr (5, [.ref q7, .int 0, .int 0, .int 0, .int 0, .int 0]))] t.heap ∧ va_K (dC, dI) vwCl [] t ∧ va_D (va_A [(h0, .inr (5, [.ref q7, .int 0, .int 0, .int 0, .int 0, .int 0]))] sz) [(h0, .inr (5, [.ref q7, .int 0, .int 0, .int 0, .int 0, .int 0]))]) (va_A [(h0, .inr (5, [.ref q7, .int 0, .int 0, .int 0, .int 0, .int 0]))] sz)) 0 0 (va_A [(h0, .inr (5, [.ref q7, .int 0, .int 0, .int 0, .int 0, .int 0]))] sz) := by
  refine Met.ofW (cc := prog_10_method_3_code) (maxL := 3) (ret := none) (by decide) rfl ?_
  intro p e s m args below meth c s₁ B hml hv
  obtain ⟨rfl, hsz, hP, hK, hD0, hN⟩ := hv
  have hx := B.exec
  have hb := B.bytes
  have hr := B.returns
  have htw : ∀ w ∈ px_all, w.before _ s = true := fun w h => atoms_spec (ws := px_s15) B.pre w (List.mem_cons_of_mem _ h)
  have hown : s.vm.findClass "MatroidDesk$Tokens" = some m.cls := findClass_of_methodNamed B.named
  have hlocks := B.notSynchronized
  subst hsz
  have hD := hD0.self (sz := s.heap.size)
  generalize hAe : va_A [(h0, .inr (5, [.ref q7, .int 0, .int 0, .int 0, .int 0, .int 0]))] s.heap.size = A at hD ⊢
  have hA : ∀ q : Nat, s.heap.size ≤ q → A q := fun q h => by rw [← hAe]; exact Or.inr h
  have hS : va_S A s.heap s.heap [] := va_S.rf
  have hP : va_P (dC, dI) vwCl [(h0, .inr (5, [.ref q7, .int 0, .int 0, .int 0, .int 0, .int 0]))] s.heap := hP
  have hl := lv_entry ([.ref h0]) (n := 3) (Nat.le_of_ble_eq_true rfl)
  rw [lg_entry_eq]
  generalize (lg_sl ([.ref h0]) ++ List.replicate (3 - (lg_sl ([.ref h0])).length) Slot.unset).toArray = ls at hl ⊢
  have hl : lv_has ls 3 [(0, .ref h0)] := hl
  refine lv_aload_n hx hb px_d15_0 rfl (lv_at hl 0 rfl) ?_
  have hPc := hP.sub (ws' := [(h0, .inr (5, [.ref q7, .int 0, .int 0, .int 0, .int 0, .int 0]))]) [0] rfl
  have hDc := hD.sub (ws' := [(h0, .inr (5, [.ref q7, .int 0, .int 0, .int 0, .int 0, .int 0]))]) [0] (by decide) rfl
  have hKc := hK.sub (tys' := []) [] rfl
  have hFc := va_free (wc := [(h0, .inr (5, [.ref q7, .int 0, .int 0, .int 0, .int 0, .int 0]))]) hD hS hA [0] rfl
  refine va_callv (va_runV (As := []) (rest := []) ⟨hx, hb, hml, hown, htw⟩ (px_skipBlanks l dC dI s.heap.size h0 q7) (cwV 0 htw (px_gv px_w309 px_w302 px_w303 px_w66 px_g14) rfl rfl rfl (by decide +kernel) ⟨Nat.le_of_ble_eq_true rfl, Nat.le_of_ble_eq_true rfl⟩) ⟨fun a U g mk q => by obtain ⟨q0, q1, qP, qK, qD, qN⟩ := q; exact ⟨q0, q1, qP, va_K.moved (u := U) (U := U.calling g mk a) (Vm.Alike.refl U.vm) qK, qD, qN.same rfl⟩, va_recv hK hP (ci := 5) (q0 := 0) rfl rfl, fun U hU hW => ⟨rfl, by rw [hU], by rw [hU]; exact hPc, va_K.moved hW.alike hKc, hDc.weaken (fun _ _ _ _ => trivial), hN.warm hW⟩⟩ rfl rfl hl.1 rfl (lv_room (Nat.le_of_ble_eq_true rfl)) px_d15_1 ⟨(Nat.le_of_ble_eq_true rfl), (Nat.le_of_ble_eq_true rfl)⟩) hS (fun q _ h => hFc q h) hFc (fun u t H1 locs ht hvm hw_1 hB hz1 hk1 hS => ?_)
  obtain ⟨hP1, hK1, hD1⟩ := hB
  rw [ht] at hP1
  have hK1 := va_K.moved hvm.symm hK1
  obtain ⟨hP, hD⟩ := va_join (wr := []) (w1 := [(h0, .inr (5, [.ref q7, .int 0, .int 0, .int 0, .int 0, .int 0]))]) hP hD [0] [] rfl rfl (by decide) (by decide) hk1 hFc hP1 hD1
  generalize H1 = H at hP hS ⊢
  have hP : va_P (dC, dI) vwCl [(h0, .inr (5, [.ref q7, .int 0, .int 0, .int 0, .int 0, .int 0]))] H := hP
  have hD : va_D A [(h0, .inr (5, [.ref q7, .int 0, .int 0, .int 0, .int 0, .int 0]))] := hD
  refine lv_aload_n hx hb px_d15_4 rfl (lv_at hl 0 rfl) ?_
  refine lv_aload_n hx hb px_d15_5 rfl (lv_at hl 0 rfl) ?_
  refine va_get (D := (dC, dI)) (ci := 5) (v := .int 0) (C := "MatroidDesk$Tokens") (T := px_T5) (N := 6) hx hb htw px_in5 hown hK hP 0 rfl rfl 2 (by decide) (htw _ px_w304) (fun _ h9 => h9) rfl px_d15_6 ?_
  refine va_put (D := (dC, dI)) (ci := 5) (v := .int 0) (ty := .int) (C := "MatroidDesk$Tokens") (T := px_T5) (N := 6) hx hb htw px_in5 px_ty5 px_tyok5 px_nm5 hown hK hP hD hS 0 rfl rfl 3 (by decide) (htw _ px_w310) (fun _ h9 => h9) rfl (by decide +kernel) rfl rfl (Nat.le_of_ble_eq_true rfl) px_d15_9 (fun H locs hP hD hS => ?_)
  have hP : va_P (dC, dI) vwCl [(h0, .inr (5, [.ref q7, .int 0, .int 0, .int 0, .int 0, .int 0]))] H := hP
  have hD : va_D A [(h0, .inr (5, [.ref q7, .int 0, .int 0, .int 0, .int 0, .int 0]))] := hD
  refine lv_aload_n hx hb px_d15_12 rfl (lv_at hl 0 rfl) ?_
  refine va_get (D := (dC, dI)) (ci := 5) (v := .int 0) (C := "MatroidDesk$Tokens") (T := px_T5) (N := 6) hx hb htw px_in5 hown hK hP 0 rfl rfl 2 (by decide) (htw _ px_w304) (fun _ h9 => h9) rfl px_d15_13 ?_
  refine lv_aload_n hx hb px_d15_16 rfl (lv_at hl 0 rfl) ?_
  refine va_get (D := (dC, dI)) (ci := 5) (v := .int 0) (C := "MatroidDesk$Tokens") (T := px_T5) (N := 6) hx hb htw px_in5 hown hK hP 0 rfl rfl 1 (by decide) (htw _ px_w305) (fun _ h9 => h9) rfl px_d15_17 ?_
  refine lv_icmp_lt (tgt := 29) hx hb px_d15_20 (by decide) (fun h9 => absurd h9 (by decide +kernel)) (fun _ => ?_)
  refine lv_aload_n hx hb px_d15_23 rfl (lv_at hl 0 rfl) ?_
  refine lv_iconst (v := 0) hx hb px_d15_24 (by decide) ?_
  refine va_put (D := (dC, dI)) (ci := 5) (v := .int 0) (ty := .int) (C := "MatroidDesk$Tokens") (T := px_T5) (N := 6) hx hb htw px_in5 px_ty5 px_tyok5 px_nm5 hown hK hP hD hS 0 rfl rfl 4 (by decide) (htw _ px_w311) (fun _ h9 => h9) rfl (by decide +kernel) rfl rfl (Nat.le_of_ble_eq_true rfl) px_d15_25 (fun H locs hP hD hS => ?_)
  have hP : va_P (dC, dI) vwCl [(h0, .inr (5, [.ref q7, .int 0, .int 0, .int 0, .int 0, .int 0]))] H := hP
  have hD : va_D A [(h0, .inr (5, [.ref q7, .int 0, .int 0, .int 0, .int 0, .int 0]))] := hD
  have hP9 := hP.sub (ws' := [(h0, .inr (5, [.ref q7, .int 0, .int 0, .int 0, .int 0, .int 0]))]) [0] rfl
  have hD9 := hD.sub (ws' := [(h0, .inr (5, [.ref q7, .int 0, .int 0, .int 0, .int 0, .int 0]))]) [0] (by decide) rfl
  have hK9 := hK.sub (tys' := []) [] rfl
  refine W.widen (k := 0) (n := 0) (Nat.le_of_ble_eq_true rfl) (Nat.le_of_ble_eq_true rfl) ?_
  exact W.vret hx hb hr (fun t ht hW => ⟨⟨(), rfl, trivial, by rw [ht]; exact hP9, va_K.moved hW.alike hK9, hD9⟩, hS.F ht⟩) hS.2.2 px_d15_28
set_option maxHeartbeats 4000000 in
set_option maxRecDepth 100000 in
/-- open(b, 0) -/
theorem px_open (l : Launch) (dC : Nat → ClassId) (dI : Nat → Nat → Nat) (sz : Nat) (h0 : Nat) (q7 : Nat) (b : Nat) : Met l px_y16 px_s16 ({ frames := 2, cells := 0, slots := 0, locals := 44 }) (va_Pc [.ref h0, .ref b, .int 0] (fun U => U.heap.size = sz ∧ va_P (dC, dI) vwCl [(h0, .inr (5, [.ref q7, .int 0, .int 0, .int 0, .int 0, .int 0]))] U.heap ∧ va_K (dC, dI) vwCl [] U ∧ va_D (fun _ => True) [(h0, .inr (5, [.ref q7, .int 0, .int 0, .int 0, .int 0, .int 0]))] ∧ px_N U)) (va_Qv (fun (_ : Unit) => True) (fun (_ : Unit) (t : State) => va_P (dC, dI) vwCl [(h0, .inr (5, [.ref b, .int 0, .int 0, .int 0, .int 0, .int 0]))] t.heap ∧ va_K (dC, dI) vwCl [] t ∧ va_D (va_A [(h0, .inr (5, [.ref q7, .int 0, .int 0, .int 0, .int 0, .int 0]))] sz) [(h0, .inr (5, [.ref b, .int 0, .int 0, .int 0, .int 0, .int 0]))]) (va_A [(h0, .inr (5, [.ref q7, .int 0, .int 0, .int 0, .int 0, .int 0]))] sz)) 0 0 (va_A [(h0, .inr (5, [.ref q7, .int 0, .int 0, .int 0, .int 0, .int 0]))] sz) := by
  refine Met.ofW (cc := prog_10_method_2_code) (maxL := 3) (ret := none) (by decide) rfl ?_
  intro p e s m args below meth c s₁ B hml hv
  obtain ⟨rfl, hsz, hP, hK, hD0, hN⟩ := hv
  have hx := B.exec
  have hb := B.bytes
  have hr := B.returns
  have htw : ∀ w ∈ px_all, w.before _ s = true := fun w h => atoms_spec (ws := px_s16) B.pre w (List.mem_cons_of_mem _ h)
  have hown : s.vm.findClass "MatroidDesk$Tokens" = some m.cls := findClass_of_methodNamed B.named
  have hlocks := B.notSynchronized
  subst hsz
  have hD := hD0.self (sz := s.heap.size)
  generalize hAe : va_A [(h0, .inr (5, [.ref q7, .int 0, .int 0, .int 0, .int 0, .int 0]))] s.heap.size = A at hD ⊢
  have hA : ∀ q : Nat, s.heap.size ≤ q → A q := fun q h => by rw [← hAe]; exact Or.inr h
  have hS : va_S A s.heap s.heap [] := va_S.rf
  have hP : va_P (dC, dI) vwCl [(h0, .inr (5, [.ref q7, .int 0, .int 0, .int 0, .int 0, .int 0]))] s.heap := hP
  have hl := lv_entry ([.ref h0, .ref b, .int 0]) (n := 3) (Nat.le_of_ble_eq_true rfl)
  rw [lg_entry_eq]
  generalize (lg_sl ([.ref h0, .ref b, .int 0]) ++ List.replicate (3 - (lg_sl ([.ref h0, .ref b, .int 0])).length) Slot.unset).toArray = ls at hl ⊢
  have hl : lv_has ls 3 [(0, .ref h0), (1, .ref b), (2, .int 0)] := hl
  refine lv_aload_n hx hb px_d16_0 rfl (lv_at hl 0 rfl) ?_
  refine lv_aload_n hx hb px_d16_1 rfl (lv_at hl 1 rfl) ?_
  refine va_put (D := (dC, dI)) (ci := 5) (v := .ref b) (ty := (.array .byte)) (C := "MatroidDesk$Tokens") (T := px_T5) (N := 6) hx hb htw px_in5 px_ty5 px_tyok5 px_nm5 hown hK hP hD hS 0 rfl rfl 0 (by decide) (htw _ px_w158) (fun _ h9 => h9) rfl (by decide +kernel) rfl rfl (Nat.le_of_ble_eq_true rfl) px_d16_2 (fun H locs hP hD hS => ?_)
  have hP : va_P (dC, dI) vwCl [(h0, .inr (5, [.ref b, .int 0, .int 0, .int 0, .int 0, .int 0]))] H := hP
  have hD : va_D A [(h0, .inr (5, [.ref b, .int 0, .int 0, .int 0, .int 0, .int 0]))] := hD
  refine lv_aload_n hx hb px_d16_5 rfl (lv_at hl 0 rfl) ?_
  refine lv_iload_n hx hb px_d16_6 rfl (lv_at hl 2 rfl) ?_
  refine va_put (D := (dC, dI)) (ci := 5) (v := .int 0) (ty := .int) (C := "MatroidDesk$Tokens") (T := px_T5) (N := 6) hx hb htw px_in5 px_ty5 px_tyok5 px_nm5 hown hK hP hD hS 0 rfl rfl 1 (by decide) (htw _ px_w305) (fun _ h9 => h9) rfl (by decide +kernel) rfl rfl (Nat.le_of_ble_eq_true rfl) px_d16_7 (fun H locs hP hD hS => ?_)
  have hP : va_P (dC, dI) vwCl [(h0, .inr (5, [.ref b, .int 0, .int 0, .int 0, .int 0, .int 0]))] H := hP
  have hD : va_D A [(h0, .inr (5, [.ref b, .int 0, .int 0, .int 0, .int 0, .int 0]))] := hD
  refine lv_aload_n hx hb px_d16_10 rfl (lv_at hl 0 rfl) ?_
  refine lv_iconst (v := 0) hx hb px_d16_11 (by decide) ?_
  refine va_put (D := (dC, dI)) (ci := 5) (v := .int 0) (ty := .int) (C := "MatroidDesk$Tokens") (T := px_T5) (N := 6) hx hb htw px_in5 px_ty5 px_tyok5 px_nm5 hown hK hP hD hS 0 rfl rfl 2 (by decide) (htw _ px_w304) (fun _ h9 => h9) rfl (by decide +kernel) rfl rfl (Nat.le_of_ble_eq_true rfl) px_d16_12 (fun H locs hP hD hS => ?_)
  have hP : va_P (dC, dI) vwCl [(h0, .inr (5, [.ref b, .int 0, .int 0, .int 0, .int 0, .int 0]))] H := hP
  have hD : va_D A [(h0, .inr (5, [.ref b, .int 0, .int 0, .int 0, .int 0, .int 0]))] := hD
  refine lv_aload_n hx hb px_d16_15 rfl (lv_at hl 0 rfl) ?_
  have hPc := hP.sub (ws' := [(h0, .inr (5, [.ref b, .int 0, .int 0, .int 0, .int 0, .int 0]))]) [0] rfl
  have hDc := hD.sub (ws' := [(h0, .inr (5, [.ref b, .int 0, .int 0, .int 0, .int 0, .int 0]))]) [0] (by decide) rfl
  have hKc := hK.sub (tys' := []) [] rfl
  have hFc := va_free (wc := [(h0, .inr (5, [.ref b, .int 0, .int 0, .int 0, .int 0, .int 0]))]) hD hS hA [0] rfl
  refine va_callv (va_runV (As := []) (rest := []) ⟨hx, hb, hml, hown, htw⟩ (px_step l dC dI H.size h0 b) (cwV 0 htw (px_gv px_w315 px_w307 px_w308 px_w66 px_g15) rfl rfl rfl (by decide +kernel) ⟨Nat.le_of_ble_eq_true rfl, Nat.le_of_ble_eq_true rfl⟩) ⟨fun a U g mk q => by obtain ⟨q0, q1, qP, qK, qD, qN⟩ := q; exact ⟨q0, q1, qP, va_K.moved (u := U) (U := U.calling g mk a) (Vm.Alike.refl U.vm) qK, qD, qN.same rfl⟩, va_recv hK hP (ci := 5) (q0 := 0) rfl rfl, fun U hU hW => ⟨rfl, by rw [hU], by rw [hU]; exact hPc, va_K.moved hW.alike hKc, hDc.weaken (fun _ _ _ _ => trivial), hN.warm hW⟩⟩ rfl rfl hl.1 rfl (lv_room (Nat.le_of_ble_eq_true rfl)) px_d16_16 ⟨(Nat.le_of_ble_eq_true rfl), (Nat.le_of_ble_eq_true rfl)⟩) hS (fun q _ h => hFc q h) hFc (fun u t H1 locs ht hvm hw_16 hB hz1 hk1 hS => ?_)
  obtain ⟨hP1, hK1, hD1⟩ := hB
  rw [ht] at hP1
  have hK1 := va_K.moved hvm.symm hK1
  obtain ⟨hP, hD⟩ := va_join (wr := []) (w1 := [(h0, .inr (5, [.ref b, .int 0, .int 0, .int 0, .int 0, .int 0]))]) hP hD [0] [] rfl rfl (by decide) (by decide) hk1 hFc hP1 hD1
  generalize H1 = H at hP hS ⊢
  have hP : va_P (dC, dI) vwCl [(h0, .inr (5, [.ref b, .int 0, .int 0, .int 0, .int 0, .int 0]))] H := hP
  have hD : va_D A [(h0, .inr (5, [.ref b, .int 0, .int 0, .int 0, .int 0, .int 0]))] := hD
  have hP9 := hP.sub (ws' := [(h0, .inr (5, [.ref b, .int 0, .int 0, .int 0, .int 0, .int 0]))]) [0] rfl
  have hD9 := hD.sub (ws' := [(h0, .inr (5, [.ref b, .int 0, .int 0, .int 0, .int 0, .int 0]))]) [0] (by decide) rfl
  have hK9 := hK.sub (tys' := []) [] rfl
  refine W.widen (k := 0) (n := 0) (Nat.le_of_ble_eq_true rfl) (Nat.le_of_ble_eq_true rfl) ?_
  exact W.vret hx hb hr (fun t ht hW => ⟨⟨(), rfl, trivial, by rw [ht]; exact hP9, va_K.moved hW.alike hK9, hD9⟩, hS.F ht⟩) hS.2.2 px_d16_19
set_option maxHeartbeats 4000000 in
set_option maxRecDepth 100000 in
/-- cutTo(0) -/
theorem px_cutTo (l : Launch) (dC : Nat → ClassId) (dI : Nat → Nat → Nat) (sz : Nat) (h0 : Nat) (q10 : Nat) (q11 : Nat) : Met l px_y17 px_s17 ({ frames := 0, cells := 0, slots := 0, locals := 0 }) (va_Pc [.ref h0, .int 0] (fun U => U.heap.size = sz ∧ va_P (dC, dI) vwCl [(h0, .inr (7, [.ref q10, .ref q11, .int 0, .int 0]))] U.heap ∧ va_K (dC, dI) vwCl [] U ∧ va_D (fun _ => True) [(h0, .inr (7, [.ref q10, .ref q11, .int 0, .int 0]))] ∧ px_N U)) (va_Qv (fun (_ : Unit) => True) (fun (_ : Unit) (t : State) => va_P (dC, dI) vwCl [(h0, .inr (7, [.ref q10, .ref q11, .int 0, .int 0]))] t.heap ∧ va_K (dC, dI) vwCl [] t ∧ va_D (va_A [(h0, .inr (7, [.ref q10, .ref q11, .int 0, .int 0]))] sz) [(h0, .inr (7, [.ref q10, .ref q11, .int 0, .int 0]))]) (va_A [(h0, .inr (7, [.ref q10, .ref q11, .int 0, .int 0]))] sz)) 0 0 (va_A [(h0, .inr (7, [.ref q10, .ref q11, .int 0, .int 0]))] sz) := by
  refine Met.ofW (cc := prog_7_method_2_code) (maxL := 2) (ret := none) (by decide) rfl ?_
  intro p e s m args below meth c s₁ B hml hv
  obtain ⟨rfl, hsz, hP, hK, hD0, hN⟩ := hv
  have hx := B.exec
  have hb := B.bytes
  have hr := B.returns
  have htw : ∀ w ∈ px_all, w.before _ s = true := fun w h => atoms_spec (ws := px_s17) B.pre w (List.mem_cons_of_mem _ h)
  have hown : s.vm.findClass "MatroidDesk$Product" = some m.cls := findClass_of_methodNamed B.named
  have hlocks := B.notSynchronized
  subst hsz
  have hD := hD0.self (sz := s.heap.size)
  generalize hAe : va_A [(h0, .inr (7, [.ref q10, .ref q11, .int 0, .int 0]))] s.heap.size = A at hD ⊢
  have hA : ∀ q : Nat, s.heap.size ≤ q → A q := fun q h => by rw [← hAe]; exact Or.inr h
  have hS : va_S A s.heap s.heap [] := va_S.rf
  have hP : va_P (dC, dI) vwCl [(h0, .inr (7, [.ref q10, .ref q11, .int 0, .int 0]))] s.heap := hP
  have hl := lv_entry ([.ref h0, .int 0]) (n := 2) (Nat.le_of_ble_eq_true rfl)
  rw [lg_entry_eq]
  generalize (lg_sl ([.ref h0, .int 0]) ++ List.replicate (2 - (lg_sl ([.ref h0, .int 0])).length) Slot.unset).toArray = ls at hl ⊢
  have hl : lv_has ls 2 [(0, .ref h0), (1, .int 0)] := hl
  refine lv_aload_n hx hb px_d17_0 rfl (lv_at hl 0 rfl) ?_
  refine lv_iload_n hx hb px_d17_1 rfl (lv_at hl 1 rfl) ?_
  refine va_put (D := (dC, dI)) (ci := 7) (v := .int 0) (ty := .int) (C := "MatroidDesk$Product") (T := px_T7) (N := 4) hx hb htw px_in7 px_ty7 px_tyok7 px_nm7 hown hK hP hD hS 0 rfl rfl 2 (by decide) (htw _ px_w319) (fun _ h9 => h9) rfl (by decide +kernel) rfl rfl (Nat.le_of_ble_eq_true rfl) px_d17_2 (fun H locs hP hD hS => ?_)
  have hP : va_P (dC, dI) vwCl [(h0, .inr (7, [.ref q10, .ref q11, .int 0, .int 0]))] H := hP
  have hD : va_D A [(h0, .inr (7, [.ref q10, .ref q11, .int 0, .int 0]))] := hD
  refine lv_aload_n hx hb px_d17_5 rfl (lv_at hl 0 rfl) ?_
  refine lv_iconst (v := 0) hx hb px_d17_6 (by decide) ?_
  refine va_put (D := (dC, dI)) (ci := 7) (v := .int 0) (ty := .boolean) (C := "MatroidDesk$Product") (T := px_T7) (N := 4) hx hb htw px_in7 px_ty7 px_tyok7 px_nm7 hown hK hP hD hS 0 rfl rfl 3 (by decide) (htw _ px_w320) (fun _ h9 => h9) rfl (by decide +kernel) (by decide +kernel) (by decide +kernel) (Nat.le_of_ble_eq_true rfl) px_d17_7 (fun H locs hP hD hS => ?_)
  have hP : va_P (dC, dI) vwCl [(h0, .inr (7, [.ref q10, .ref q11, .int 0, .int 0]))] H := hP
  have hD : va_D A [(h0, .inr (7, [.ref q10, .ref q11, .int 0, .int 0]))] := hD
  have hP9 := hP.sub (ws' := [(h0, .inr (7, [.ref q10, .ref q11, .int 0, .int 0]))]) [0] rfl
  have hD9 := hD.sub (ws' := [(h0, .inr (7, [.ref q10, .ref q11, .int 0, .int 0]))]) [0] (by decide) rfl
  have hK9 := hK.sub (tys' := []) [] rfl
  refine W.widen (k := 0) (n := 0) (Nat.le_of_ble_eq_true rfl) (Nat.le_of_ble_eq_true rfl) ?_
  exact W.vret hx hb hr (fun t ht hW => ⟨⟨(), rfl, trivial, by rw [ht]; exact hP9, va_K.moved hW.alike hK9, hD9⟩, hS.F ht⟩) hS.2.2 px_d17_10
set_option maxHeartbeats 4000000 in
set_option maxRecDepth 100000 in
/-- readsWhole(0) -/
theorem px_readsWhole (l : Launch) (dC : Nat → ClassId) (dI : Nat → Nat → Nat) (sz : Nat) (h0 : Nat) (qb : Nat) (qm : Nat) (qe : Nat) (qo : Nat) (qi : Nat) (qw : Nat) (qt : Nat) (qs : Nat) (qp : Nat) (q7 : Nat) : Met l px_y18 px_s18 ({ frames := 3, cells := 0, slots := 0, locals := 66 }) (va_Pc [.ref h0, .int 0] (fun U => U.heap.size = sz ∧ va_P (dC, dI) vwCl [(h0, .inr (0, [.ref qb, .int 0, .int (-1), .int 0, .int 0, .null, .ref qm, .ref qe, .ref qo, .ref qi, .ref qw, .ref qt, .ref qs, .ref qp])), (qt, .inr (5, [.ref q7, .int 0, .int 0, .int 0, .int 0, .int 0]))] U.heap ∧ va_K (dC, dI) vwCl [] U ∧ va_D (fun _ => True) [(h0, .inr (0, [.ref qb, .int 0, .int (-1), .int 0, .int 0, .null, .ref qm, .ref qe, .ref qo, .ref qi, .ref qw, .ref qt, .ref qs, .ref qp])), (qt, .inr (5, [.ref q7, .int 0, .int 0, .int 0, .int 0, .int 0]))] ∧ px_N U)) (va_Qi (fun (r : Int32) (_ : Unit) => r = 1) (fun (_ : Unit) (t : State) => va_P (dC, dI) vwCl [(h0, .inr (0, [.ref qb, .int 0, .int (-1), .int 0, .int 0, .null, .ref qm, .ref qe, .ref qo, .ref qi, .ref qw, .ref qt, .ref qs, .ref qp])), (qt, .inr (5, [.ref qb, .int 0, .int 0, .int 0, .int 0, .int 0]))] t.heap ∧ va_K (dC, dI) vwCl [] t ∧ va_D (va_A [(h0, .inr (0, [.ref qb, .int 0, .int (-1), .int 0, .int 0, .null, .ref qm, .ref qe, .ref qo, .ref qi, .ref qw, .ref qt, .ref qs, .ref qp])), (qt, .inr (5, [.ref q7, .int 0, .int 0, .int 0, .int 0, .int 0]))] sz) [(h0, .inr (0, [.ref qb, .int 0, .int (-1), .int 0, .int 0, .null, .ref qm, .ref qe, .ref qo, .ref qi, .ref qw, .ref qt, .ref qs, .ref qp])), (qt, .inr (5, [.ref qb, .int 0, .int 0, .int 0, .int 0, .int 0]))]) (va_A [(h0, .inr (0, [.ref qb, .int 0, .int (-1), .int 0, .int 0, .null, .ref qm, .ref qe, .ref qo, .ref qi, .ref qw, .ref qt, .ref qs, .ref qp])), (qt, .inr (5, [.ref q7, .int 0, .int 0, .int 0, .int 0, .int 0]))] sz)) 0 0 (va_A [(h0, .inr (0, [.ref qb, .int 0, .int (-1), .int 0, .int 0, .null, .ref qm, .ref qe, .ref qo, .ref qi, .ref qw, .ref qt, .ref qs, .ref qp])), (qt, .inr (5, [.ref q7, .int 0, .int 0, .int 0, .int 0, .int 0]))] sz) := by
  refine Met.ofW (cc := prog_1_method_27_code) (maxL := 3) (ret := (some .boolean)) (by decide) rfl ?_
  intro p e s m args below meth c s₁ B hml hv
  obtain ⟨rfl, hsz, hP, hK, hD0, hN⟩ := hv
  have hx := B.exec
  have hb := B.bytes
  have hr := B.returns
  have htw : ∀ w ∈ px_all, w.before _ s = true := fun w h => atoms_spec (ws := px_s18) B.pre w (List.mem_cons_of_mem _ h)
  have hown : s.vm.findClass "MatroidDesk" = some m.cls := findClass_of_methodNamed B.named
  have hlocks := B.notSynchronized
  subst hsz
  have hD := hD0.self (sz := s.heap.size)
  generalize hAe : va_A [(h0, .inr (0, [.ref qb, .int 0, .int (-1), .int 0, .int 0, .null, .ref qm, .ref qe, .ref qo, .ref qi, .ref qw, .ref qt, .ref qs, .ref qp])), (qt, .inr (5, [.ref q7, .int 0, .int 0, .int 0, .int 0, .int 0]))] s.heap.size = A at hD ⊢
  have hA : ∀ q : Nat, s.heap.size ≤ q → A q := fun q h => by rw [← hAe]; exact Or.inr h
  have hS : va_S A s.heap s.heap [] := va_S.rf
  have hP : va_P (dC, dI) vwCl [(h0, .inr (0, [.ref qb, .int 0, .int (-1), .int 0, .int 0, .null, .ref qm, .ref qe, .ref qo, .ref qi, .ref qw, .ref qt, .ref qs, .ref qp])), (qt, .inr (5, [.ref q7, .int 0, .int 0, .int 0, .int 0, .int 0]))] s.heap := hP
  have hl := lv_entry ([.ref h0, .int 0]) (n := 3) (Nat.le_of_ble_eq_true rfl)
  rw [lg_entry_eq]
  generalize (lg_sl ([.ref h0, .int 0]) ++ List.replicate (3 - (lg_sl ([.ref h0, .int 0])).length) Slot.unset).toArray = ls at hl ⊢
  have hl : lv_has ls 3 [(0, .ref h0), (1, .int 0)] := hl
  refine lv_aload_n hx hb px_d18_0 rfl (lv_at hl 0 rfl) ?_
  refine va_get (D := (dC, dI)) (ci := 0) (v := .ref qt) (C := "MatroidDesk") (T := px_T0) (N := 14) hx hb htw px_in0 hown hK hP 0 rfl rfl 11 (by decide) (htw _ px_w229) (fun _ h9 => h9) rfl px_d18_1 ?_
  refine lv_aload_n hx hb px_d18_4 rfl (lv_at hl 0 rfl) ?_
  refine va_get (D := (dC, dI)) (ci := 0) (v := .ref qb) (C := "MatroidDesk") (T := px_T0) (N := 14) hx hb htw px_in0 hown hK hP 0 rfl rfl 0 (by decide) (htw _ px_w209) (fun _ h9 => h9) rfl px_d18_5 ?_
  refine lv_iload_n hx hb px_d18_8 rfl (lv_at hl 1 rfl) ?_
  have hPc := hP.sub (ws' := [(qt, .inr (5, [.ref q7, .int 0, .int 0, .int 0, .int 0, .int 0]))]) [1] rfl
  have hDc := hD.sub (ws' := [(qt, .inr (5, [.ref q7, .int 0, .int 0, .int 0, .int 0, .int 0]))]) [1] (by decide) rfl
  have hKc := hK.sub (tys' := []) [] rfl
  have hFc := va_free (wc := [(qt, .inr (5, [.ref q7, .int 0, .int 0, .int 0, .int 0, .int 0]))]) hD hS hA [1] rfl
  refine va_callv (va_runV (As := [.ref qb, .int 0]) (rest := []) ⟨hx, hb, hml, hown, htw⟩ (px_open l dC dI s.heap.size qt q7 qb) (cwV 2 htw (px_gv px_w324 px_w313 px_w314 px_w66 px_g16) rfl rfl rfl (by decide +kernel) ⟨Nat.le_of_ble_eq_true rfl, Nat.le_of_ble_eq_true rfl⟩) ⟨fun a U g mk q => by obtain ⟨q0, q1, qP, qK, qD, qN⟩ := q; exact ⟨q0, q1, qP, va_K.moved (u := U) (U := U.calling g mk a) (Vm.Alike.refl U.vm) qK, qD, qN.same rfl⟩, va_recv hK hP (ci := 5) (q0 := 1) rfl rfl, fun U hU hW => ⟨rfl, by rw [hU], by rw [hU]; exact hPc, va_K.moved hW.alike hKc, hDc.weaken (fun _ _ _ _ => trivial), hN.warm hW⟩⟩ rfl rfl hl.1 rfl (lv_room (Nat.le_of_ble_eq_true rfl)) px_d18_9 ⟨(Nat.le_of_ble_eq_true rfl), (Nat.le_of_ble_eq_true rfl)⟩) hS (fun q _ h => hFc q h) hFc (fun u t H1 locs ht hvm hw_9 hB hz1 hk1 hS => ?_)
  obtain ⟨hP1, hK1, hD1⟩ := hB
  rw [ht] at hP1
  have hK1 := va_K.moved hvm.symm hK1
  obtain ⟨hP, hD⟩ := va_join (wr := [(h0, .inr (0, [.ref qb, .int 0, .int (-1), .int 0, .int 0, .null, .ref qm, .ref qe, .ref qo, .ref qi, .ref qw, .ref qt, .ref qs, .ref qp]))]) (w1 := [(qt, .inr (5, [.ref qb, .int 0, .int 0, .int 0, .int 0, .int 0]))]) hP hD [1] [0] rfl rfl (by decide) (by decide) hk1 hFc hP1 hD1
  generalize H1 = H at hP hS ⊢
  have hP : va_P (dC, dI) vwCl [(h0, .inr (0, [.ref qb, .int 0, .int (-1), .int 0, .int 0, .null, .ref qm, .ref qe, .ref qo, .ref qi, .ref qw, .ref qt, .ref qs, .ref qp])), (qt, .inr (5, [.ref qb, .int 0, .int 0, .int 0, .int 0, .int 0]))] H := hP
  have hD : va_D A [(h0, .inr (0, [.ref qb, .int 0, .int (-1), .int 0, .int 0, .null, .ref qm, .ref qe, .ref qo, .ref qi, .ref qw, .ref qt, .ref qs, .ref qp])), (qt, .inr (5, [.ref qb, .int 0, .int 0, .int 0, .int 0, .int 0]))] := hD
  refine lv_iconst (v := 0) hx hb px_d18_12 (by decide) ?_
  refine lv_istore_n (lv' := [(2, .int 0), (0, .ref h0), (1, .int 0)]) hx hb px_d18_13 rfl hl (by decide) rfl (fun ls hl => ?_)
  refine lv_iload_n hx hb px_d18_14 rfl (lv_at hl 0 rfl) ?_
  refine lv_sipush (v := 400) hx hb px_d18_15 (by decide) ?_
  refine lv_icmp_ge (tgt := 49) hx hb px_d18_18 (by decide) (fun h9 => absurd h9 (by decide +kernel)) (fun _ => ?_)
  refine lv_aload_n hx hb px_d18_21 rfl (lv_at hl 1 rfl) ?_
  refine va_get (D := (dC, dI)) (ci := 0) (v := .ref qt) (C := "MatroidDesk") (T := px_T0) (N := 14) hx hb htw px_in0 hown hK hP 0 rfl rfl 11 (by decide) (htw _ px_w229) (fun _ h9 => h9) rfl px_d18_22 ?_
  refine va_getN (D := (dC, dI)) (ci := 5) (v := .int 0) (C := "MatroidDesk$Tokens") (T := px_T5) (N := 6) hx hb htw px_in5 hown hK hP 1 rfl rfl 4 (by decide) (va_Nw.use (w := .fieldLinkNest "MatroidDesk" 122 "MatroidDesk$Tokens" "kind" "I" "MatroidDesk") rfl (hN.1 ("MatroidDesk", 122, "MatroidDesk$Tokens", "kind", "I", "MatroidDesk") (by decide))) (fun _ h9 => h9) rfl px_d18_25 ?_
  refine lv_if_eq (tgt := 49) hx hb px_d18_28 (by decide) (fun _ => ?_) (fun h9 => absurd (by decide +kernel) h9)
  refine lv_aload_n hx hb px_d18_49 rfl (lv_at hl 1 rfl) ?_
  refine va_get (D := (dC, dI)) (ci := 0) (v := .ref qt) (C := "MatroidDesk") (T := px_T0) (N := 14) hx hb htw px_in0 hown hK hP 0 rfl rfl 11 (by decide) (htw _ px_w229) (fun _ h9 => h9) rfl px_d18_50 ?_
  refine va_getN (D := (dC, dI)) (ci := 5) (v := .int 0) (C := "MatroidDesk$Tokens") (T := px_T5) (N := 6) hx hb htw px_in5 hown hK hP 1 rfl rfl 4 (by decide) (va_Nw.use (w := .fieldLinkNest "MatroidDesk" 122 "MatroidDesk$Tokens" "kind" "I" "MatroidDesk") rfl (hN.1 ("MatroidDesk", 122, "MatroidDesk$Tokens", "kind", "I", "MatroidDesk") (by decide))) (fun _ h9 => h9) rfl px_d18_53 ?_
  refine lv_if_ne (tgt := 63) hx hb px_d18_56 (by decide) (fun h9 => absurd (by decide +kernel) h9) (fun _ => ?_)
  refine lv_iconst (v := 1) hx hb px_d18_59 (by decide) ?_
  refine lv_goto (tgt := 64) hx hb px_d18_60 (by decide) ?_
  have hP9 := hP.sub (ws' := [(h0, .inr (0, [.ref qb, .int 0, .int (-1), .int 0, .int 0, .null, .ref qm, .ref qe, .ref qo, .ref qi, .ref qw, .ref qt, .ref qs, .ref qp])), (qt, .inr (5, [.ref qb, .int 0, .int 0, .int 0, .int 0, .int 0]))]) [0, 1] rfl
  have hD9 := hD.sub (ws' := [(h0, .inr (0, [.ref qb, .int 0, .int (-1), .int 0, .int 0, .null, .ref qm, .ref qe, .ref qo, .ref qi, .ref qw, .ref qt, .ref qs, .ref qp])), (qt, .inr (5, [.ref qb, .int 0, .int 0, .int 0, .int 0, .int 0]))]) [0, 1] (by decide) rfl
  have hK9 := hK.sub (tys' := []) [] rfl
  refine W.widen (k := 0) (n := 0) (Nat.le_of_ble_eq_true rfl) (Nat.le_of_ble_eq_true rfl) ?_
  exact W.zret (v := 1) hx hb hr (by decide +kernel) (fun t ht hW => ⟨⟨1, (), rfl, rfl, by rw [ht]; exact hP9, va_K.moved hW.alike hK9, hD9⟩, hS.F ht⟩) hS.2.2 px_d18_64
set_option maxHeartbeats 4000000 in
set_option maxRecDepth 100000 in
/-- run() -/
theorem px_D_run (l : Launch) (dC : Nat → ClassId) (dI : Nat → Nat → Nat) (sz : Nat) (h0 : Nat) (qb : Nat) (qm : Nat) (qe : Nat) (qo : Nat) (qi : Nat) (qw : Nat) (qt : Nat) (qs : Nat) (qp : Nat) (q7 : Nat) (q10 : Nat) (q11 : Nat) : Met l px_y19 px_s19 ({ frames := 4, cells := 0, slots := 0, locals := 88 }) (va_Pc [.ref h0] (fun U => U.heap.size = sz ∧ va_P (dC, dI) vwCl [(h0, .inr (0, [.ref qb, .int 0, .int (-1), .int 0, .int 0, .null, .ref qm, .ref qe, .ref qo, .ref qi, .ref qw, .ref qt, .ref qs, .ref qp])), (qt, .inr (5, [.ref q7, .int 0, .int 0, .int 0, .int 0, .int 0])), (qp, .inr (7, [.ref q10, .ref q11, .int 0, .int 0]))] U.heap ∧ va_K (dC, dI) vwCl [] U ∧ va_D (fun _ => True) [(h0, .inr (0, [.ref qb, .int 0, .int (-1), .int 0, .int 0, .null, .ref qm, .ref qe, .ref qo, .ref qi, .ref qw, .ref qt, .ref qs, .ref qp])), (qt, .inr (5, [.ref q7, .int 0, .int 0, .int 0, .int 0, .int 0])), (qp, .inr (7, [.ref q10, .ref q11, .int 0, .int 0]))] ∧ px_N U)) (va_Qi (fun (r : Int32) (_ : Unit) => r = 0) (fun (_ : Unit) (t : State) => va_P (dC, dI) vwCl [] t.heap ∧ va_K (dC, dI) vwCl [] t ∧ va_D (va_A [(h0, .inr (0, [.ref qb, .int 0, .int (-1), .int 0, .int 0, .null, .ref qm, .ref qe, .ref qo, .ref qi, .ref qw, .ref qt, .ref qs, .ref qp])), (qt, .inr (5, [.ref q7, .int 0, .int 0, .int 0, .int 0, .int 0])), (qp, .inr (7, [.ref q10, .ref q11, .int 0, .int 0]))] sz) []) (va_A [(h0, .inr (0, [.ref qb, .int 0, .int (-1), .int 0, .int 0, .null, .ref qm, .ref qe, .ref qo, .ref qi, .ref qw, .ref qt, .ref qs, .ref qp])), (qt, .inr (5, [.ref q7, .int 0, .int 0, .int 0, .int 0, .int 0])), (qp, .inr (7, [.ref q10, .ref q11, .int 0, .int 0]))] sz)) 0 0 (va_A [(h0, .inr (0, [.ref qb, .int 0, .int (-1), .int 0, .int 0, .null, .ref qm, .ref qe, .ref qo, .ref qi, .ref qw, .ref qt, .ref qs, .ref qp])), (qt, .inr (5, [.ref q7, .int 0, .int 0, .int 0, .int 0, .int 0])), (qp, .inr (7, [.ref q10, .ref q11, .int 0, .int 0]))] sz) := by
  refine Met.ofW (cc := prog_1_method_4_code) (maxL := 5) (ret := (some .int)) (by decide) rfl ?_
  intro p e s m args below meth c s₁ B hml hv
  obtain ⟨rfl, hsz, hP, hK, hD0, hN⟩ := hv
  have hx := B.exec
  have hb := B.bytes
  have hr := B.returns
  have htw : ∀ w ∈ px_all, w.before _ s = true := fun w h => atoms_spec (ws := px_s19) B.pre w (List.mem_cons_of_mem _ h)
  have hown : s.vm.findClass "MatroidDesk" = some m.cls := findClass_of_methodNamed B.named
  have hlocks := B.notSynchronized
  subst hsz
  have hD := hD0.self (sz := s.heap.size)
  generalize hAe : va_A [(h0, .inr (0, [.ref qb, .int 0, .int (-1), .int 0, .int 0, .null, .ref qm, .ref qe, .ref qo, .ref qi, .ref qw, .ref qt, .ref qs, .ref qp])), (qt, .inr (5, [.ref q7, .int 0, .int 0, .int 0, .int 0, .int 0])), (qp, .inr (7, [.ref q10, .ref q11, .int 0, .int 0]))] s.heap.size = A at hD ⊢
  have hA : ∀ q : Nat, s.heap.size ≤ q → A q := fun q h => by rw [← hAe]; exact Or.inr h
  have hS : va_S A s.heap s.heap [] := va_S.rf
  have hP : va_P (dC, dI) vwCl [(h0, .inr (0, [.ref qb, .int 0, .int (-1), .int 0, .int 0, .null, .ref qm, .ref qe, .ref qo, .ref qi, .ref qw, .ref qt, .ref qs, .ref qp])), (qt, .inr (5, [.ref q7, .int 0, .int 0, .int 0, .int 0, .int 0])), (qp, .inr (7, [.ref q10, .ref q11, .int 0, .int 0]))] s.heap := hP
  have hl := lv_entry ([.ref h0]) (n := 5) (Nat.le_of_ble_eq_true rfl)
  rw [lg_entry_eq]
  generalize (lg_sl ([.ref h0]) ++ List.replicate (5 - (lg_sl ([.ref h0])).length) Slot.unset).toArray = ls at hl ⊢
  have hl : lv_has ls 5 [(0, .ref h0)] := hl
  refine lv_aload_n hx hb px_d19_0 rfl (lv_at hl 0 rfl) ?_
  refine va_get (D := (dC, dI)) (ci := 0) (v := .int 0) (C := "MatroidDesk") (T := px_T0) (N := 14) hx hb htw px_in0 hown hK hP 0 rfl rfl 1 (by decide) (htw _ px_w210) (fun _ h9 => h9) rfl px_d19_1 ?_
  refine lv_istore_n (lv' := [(1, .int 0), (0, .ref h0)]) hx hb px_d19_4 rfl hl (by decide) rfl (fun ls hl => ?_)
  refine lv_aload_n hx hb px_d19_5 rfl (lv_at hl 1 rfl) ?_
  refine lv_iconst (v := 0) hx hb px_d19_6 (by decide) ?_
  refine va_put (D := (dC, dI)) (ci := 0) (v := .int 0) (ty := .int) (C := "MatroidDesk") (T := px_T0) (N := 14) hx hb htw px_in0 px_ty0 px_tyok0 px_nm0 hown hK hP hD hS 0 rfl rfl 1 (by decide) (htw _ px_w210) (fun _ h9 => h9) rfl (by decide +kernel) rfl rfl (Nat.le_of_ble_eq_true rfl) px_d19_7 (fun H locs hP hD hS => ?_)
  have hP : va_P (dC, dI) vwCl [(h0, .inr (0, [.ref qb, .int 0, .int (-1), .int 0, .int 0, .null, .ref qm, .ref qe, .ref qo, .ref qi, .ref qw, .ref qt, .ref qs, .ref qp])), (qt, .inr (5, [.ref q7, .int 0, .int 0, .int 0, .int 0, .int 0])), (qp, .inr (7, [.ref q10, .ref q11, .int 0, .int 0]))] H := hP
  have hD : va_D A [(h0, .inr (0, [.ref qb, .int 0, .int (-1), .int 0, .int 0, .null, .ref qm, .ref qe, .ref qo, .ref qi, .ref qw, .ref qt, .ref qs, .ref qp])), (qt, .inr (5, [.ref q7, .int 0, .int 0, .int 0, .int 0, .int 0])), (qp, .inr (7, [.ref q10, .ref q11, .int 0, .int 0]))] := hD
  refine lv_aload_n hx hb px_d19_10 rfl (lv_at hl 1 rfl) ?_
  refine lv_iload_n hx hb px_d19_11 rfl (lv_at hl 0 rfl) ?_
  have hPc := hP.sub (ws' := [(h0, .inr (0, [.ref qb, .int 0, .int (-1), .int 0, .int 0, .null, .ref qm, .ref qe, .ref qo, .ref qi, .ref qw, .ref qt, .ref qs, .ref qp])), (qt, .inr (5, [.ref q7, .int 0, .int 0, .int 0, .int 0, .int 0]))]) [0, 1] rfl
  have hDc := hD.sub (ws' := [(h0, .inr (0, [.ref qb, .int 0, .int (-1), .int 0, .int 0, .null, .ref qm, .ref qe, .ref qo, .ref qi, .ref qw, .ref qt, .ref qs, .ref qp])), (qt, .inr (5, [.ref q7, .int 0, .int 0, .int 0, .int 0, .int 0]))]) [0, 1] (by decide) rfl
  have hKc := hK.sub (tys' := []) [] rfl
  have hFc := va_free (wc := [(h0, .inr (0, [.ref qb, .int 0, .int (-1), .int 0, .int 0, .null, .ref qm, .ref qe, .ref qo, .ref qi, .ref qw, .ref qt, .ref qs, .ref qp])), (qt, .inr (5, [.ref q7, .int 0, .int 0, .int 0, .int 0, .int 0]))]) hD hS hA [0, 1] rfl
  refine va_calli (va_runV (As := [.int 0]) (rest := []) ⟨hx, hb, hml, hown, htw⟩ (px_readsWhole l dC dI H.size h0 qb qm qe qo qi qw qt qs qp q7) (cwV 1 htw (px_gv px_w328 px_w322 px_w323 px_w6 px_g18) rfl rfl rfl (by decide +kernel) ⟨Nat.le_of_ble_eq_true rfl, Nat.le_of_ble_eq_true rfl⟩) ⟨fun a U g mk q => by obtain ⟨q0, q1, qP, qK, qD, qN⟩ := q; exact ⟨q0, q1, qP, va_K.moved (u := U) (U := U.calling g mk a) (Vm.Alike.refl U.vm) qK, qD, qN.same rfl⟩, va_recv hK hP (ci := 0) (q0 := 0) rfl rfl, fun U hU hW => ⟨rfl, by rw [hU], by rw [hU]; exact hPc, va_K.moved hW.alike hKc, hDc.weaken (fun _ _ _ _ => trivial), hN.warm hW⟩⟩ rfl rfl hl.1 rfl (lv_room (Nat.le_of_ble_eq_true rfl)) px_d19_12 ⟨(Nat.le_of_ble_eq_true rfl), (Nat.le_of_ble_eq_true rfl)⟩) hS (fun q _ h => hFc q h) hFc (fun r u t H1 locs ht hvm hw_12 hB hz1 hk1 hS => ?_)
  obtain ⟨hP1, hK1, hD1⟩ := hB
  rw [ht] at hP1
  have hK1 := va_K.moved hvm.symm hK1
  obtain ⟨hP, hD⟩ := va_join (wr := [(qp, .inr (7, [.ref q10, .ref q11, .int 0, .int 0]))]) (w1 := [(h0, .inr (0, [.ref qb, .int 0, .int (-1), .int 0, .int 0, .null, .ref qm, .ref qe, .ref qo, .ref qi, .ref qw, .ref qt, .ref qs, .ref qp])), (qt, .inr (5, [.ref qb, .int 0, .int 0, .int 0, .int 0, .int 0]))]) hP hD [0, 1] [2] rfl rfl (by decide) (by decide) hk1 hFc hP1 hD1
  generalize H1 = H at hP hS ⊢
  have hP : va_P (dC, dI) vwCl [(qp, .inr (7, [.ref q10, .ref q11, .int 0, .int 0])), (h0, .inr (0, [.ref qb, .int 0, .int (-1), .int 0, .int 0, .null, .ref qm, .ref qe, .ref qo, .ref qi, .ref qw, .ref qt, .ref qs, .ref qp])), (qt, .inr (5, [.ref qb, .int 0, .int 0, .int 0, .int 0, .int 0]))] H := hP
  have hD : va_D A [(qp, .inr (7, [.ref q10, .ref q11, .int 0, .int 0])), (h0, .inr (0, [.ref qb, .int 0, .int (-1), .int 0, .int 0, .null, .ref qm, .ref qe, .ref qo, .ref qi, .ref qw, .ref qt, .ref qs, .ref qp])), (qt, .inr (5, [.ref qb, .int 0, .int 0, .int 0, .int 0, .int 0]))] := hD
  subst hw_12
  refine lv_if_ne (tgt := 31) hx hb px_d19_15 (by decide) (fun _ => ?_) (fun h9 => absurd h9 (by decide +kernel))
  refine lv_aload_n hx hb px_d19_31 rfl (lv_at hl 1 rfl) ?_
  refine va_get (D := (dC, dI)) (ci := 0) (v := .ref qp) (C := "MatroidDesk") (T := px_T0) (N := 14) hx hb htw px_in0 hown hK hP 1 rfl rfl 13 (by decide) (htw _ px_w235) (fun _ h9 => h9) rfl px_d19_32 ?_
  refine lv_iconst (v := 0) hx hb px_d19_35 (by decide) ?_
  have hPc := hP.sub (ws' := [(qp, .inr (7, [.ref q10, .ref q11, .int 0, .int 0]))]) [0] rfl
  have hDc := hD.sub (ws' := [(qp, .inr (7, [.ref q10, .ref q11, .int 0, .int 0]))]) [0] (by decide) rfl
  have hKc := hK.sub (tys' := []) [] rfl
  have hFc := va_free (wc := [(qp, .inr (7, [.ref q10, .ref q11, .int 0, .int 0]))]) hD hS hA [0] rfl
  refine va_callv (va_runV (As := [.int 0]) (rest := []) ⟨hx, hb, hml, hown, htw⟩ (px_cutTo l dC dI H.size qp q10 q11) (cwV 1 htw (px_gv px_w329 px_w317 px_w318 px_w88 px_g17) rfl rfl rfl (by decide +kernel) ⟨Nat.le_of_ble_eq_true rfl, Nat.le_of_ble_eq_true rfl⟩) ⟨fun a U g mk q => by obtain ⟨q0, q1, qP, qK, qD, qN⟩ := q; exact ⟨q0, q1, qP, va_K.moved (u := U) (U := U.calling g mk a) (Vm.Alike.refl U.vm) qK, qD, qN.same rfl⟩, va_recv hK hP (ci := 7) (q0 := 0) rfl rfl, fun U hU hW => ⟨rfl, by rw [hU], by rw [hU]; exact hPc, va_K.moved hW.alike hKc, hDc.weaken (fun _ _ _ _ => trivial), hN.warm hW⟩⟩ rfl rfl hl.1 rfl (lv_room (Nat.le_of_ble_eq_true rfl)) px_d19_36 ⟨(Nat.le_of_ble_eq_true rfl), (Nat.le_of_ble_eq_true rfl)⟩) hS (fun q _ h => hFc q h) hFc (fun u t H1 locs ht hvm hw_36 hB hz1 hk1 hS => ?_)
  obtain ⟨hP1, hK1, hD1⟩ := hB
  rw [ht] at hP1
  have hK1 := va_K.moved hvm.symm hK1
  obtain ⟨hP, hD⟩ := va_join (wr := [(h0, .inr (0, [.ref qb, .int 0, .int (-1), .int 0, .int 0, .null, .ref qm, .ref qe, .ref qo, .ref qi, .ref qw, .ref qt, .ref qs, .ref qp])), (qt, .inr (5, [.ref qb, .int 0, .int 0, .int 0, .int 0, .int 0]))]) (w1 := [(qp, .inr (7, [.ref q10, .ref q11, .int 0, .int 0]))]) hP hD [0] [1, 2] rfl rfl (by decide) (by decide) hk1 hFc hP1 hD1
  generalize H1 = H at hP hS ⊢
  have hP : va_P (dC, dI) vwCl [(h0, .inr (0, [.ref qb, .int 0, .int (-1), .int 0, .int 0, .null, .ref qm, .ref qe, .ref qo, .ref qi, .ref qw, .ref qt, .ref qs, .ref qp])), (qt, .inr (5, [.ref qb, .int 0, .int 0, .int 0, .int 0, .int 0])), (qp, .inr (7, [.ref q10, .ref q11, .int 0, .int 0]))] H := hP
  have hD : va_D A [(h0, .inr (0, [.ref qb, .int 0, .int (-1), .int 0, .int 0, .null, .ref qm, .ref qe, .ref qo, .ref qi, .ref qw, .ref qt, .ref qs, .ref qp])), (qt, .inr (5, [.ref qb, .int 0, .int 0, .int 0, .int 0, .int 0])), (qp, .inr (7, [.ref q10, .ref q11, .int 0, .int 0]))] := hD
  refine lv_aload_n hx hb px_d19_39 rfl (lv_at hl 1 rfl) ?_
  refine lv_iconst (v := 0) hx hb px_d19_40 (by decide) ?_
  refine va_put (D := (dC, dI)) (ci := 0) (v := .int 0) (ty := .int) (C := "MatroidDesk") (T := px_T0) (N := 14) hx hb htw px_in0 px_ty0 px_tyok0 px_nm0 hown hK hP hD hS 0 rfl rfl 3 (by decide) (htw _ px_w212) (fun _ h9 => h9) rfl (by decide +kernel) rfl rfl (Nat.le_of_ble_eq_true rfl) px_d19_41 (fun H locs hP hD hS => ?_)
  have hP : va_P (dC, dI) vwCl [(h0, .inr (0, [.ref qb, .int 0, .int (-1), .int 0, .int 0, .null, .ref qm, .ref qe, .ref qo, .ref qi, .ref qw, .ref qt, .ref qs, .ref qp])), (qt, .inr (5, [.ref qb, .int 0, .int 0, .int 0, .int 0, .int 0])), (qp, .inr (7, [.ref q10, .ref q11, .int 0, .int 0]))] H := hP
  have hD : va_D A [(h0, .inr (0, [.ref qb, .int 0, .int (-1), .int 0, .int 0, .null, .ref qm, .ref qe, .ref qo, .ref qi, .ref qw, .ref qt, .ref qs, .ref qp])), (qt, .inr (5, [.ref qb, .int 0, .int 0, .int 0, .int 0, .int 0])), (qp, .inr (7, [.ref q10, .ref q11, .int 0, .int 0]))] := hD
  refine lv_iconst (v := 0) hx hb px_d19_44 (by decide) ?_
  refine lv_istore_n (lv' := [(2, .int 0), (1, .int 0), (0, .ref h0)]) hx hb px_d19_45 rfl hl (by decide) rfl (fun ls hl => ?_)
  refine lv_aload_n hx hb px_d19_46 rfl (lv_at hl 2 rfl) ?_
  refine va_get (D := (dC, dI)) (ci := 0) (v := .ref qt) (C := "MatroidDesk") (T := px_T0) (N := 14) hx hb htw px_in0 hown hK hP 0 rfl rfl 11 (by decide) (htw _ px_w229) (fun _ h9 => h9) rfl px_d19_47 ?_
  refine lv_aload_n hx hb px_d19_50 rfl (lv_at hl 2 rfl) ?_
  refine va_get (D := (dC, dI)) (ci := 0) (v := .ref qb) (C := "MatroidDesk") (T := px_T0) (N := 14) hx hb htw px_in0 hown hK hP 0 rfl rfl 0 (by decide) (htw _ px_w209) (fun _ h9 => h9) rfl px_d19_51 ?_
  refine lv_iload_n hx hb px_d19_54 rfl (lv_at hl 1 rfl) ?_
  have hPc := hP.sub (ws' := [(qt, .inr (5, [.ref qb, .int 0, .int 0, .int 0, .int 0, .int 0]))]) [1] rfl
  have hDc := hD.sub (ws' := [(qt, .inr (5, [.ref qb, .int 0, .int 0, .int 0, .int 0, .int 0]))]) [1] (by decide) rfl
  have hKc := hK.sub (tys' := []) [] rfl
  have hFc := va_free (wc := [(qt, .inr (5, [.ref qb, .int 0, .int 0, .int 0, .int 0, .int 0]))]) hD hS hA [1] rfl
  refine va_callv (va_runV (As := [.ref qb, .int 0]) (rest := []) ⟨hx, hb, hml, hown, htw⟩ (px_open l dC dI H.size qt qb qb) (cwV 2 htw (px_gv px_w324 px_w313 px_w314 px_w66 px_g16) rfl rfl rfl (by decide +kernel) ⟨Nat.le_of_ble_eq_true rfl, Nat.le_of_ble_eq_true rfl⟩) ⟨fun a U g mk q => by obtain ⟨q0, q1, qP, qK, qD, qN⟩ := q; exact ⟨q0, q1, qP, va_K.moved (u := U) (U := U.calling g mk a) (Vm.Alike.refl U.vm) qK, qD, qN.same rfl⟩, va_recv hK hP (ci := 5) (q0 := 1) rfl rfl, fun U hU hW => ⟨rfl, by rw [hU], by rw [hU]; exact hPc, va_K.moved hW.alike hKc, hDc.weaken (fun _ _ _ _ => trivial), hN.warm hW⟩⟩ rfl rfl hl.1 rfl (lv_room (Nat.le_of_ble_eq_true rfl)) px_d19_55 ⟨(Nat.le_of_ble_eq_true rfl), (Nat.le_of_ble_eq_true rfl)⟩) hS (fun q _ h => hFc q h) hFc (fun u t H1 locs ht hvm hw_55 hB hz1 hk1 hS => ?_)
  obtain ⟨hP1, hK1, hD1⟩ := hB
  rw [ht] at hP1
  have hK1 := va_K.moved hvm.symm hK1
  obtain ⟨hP, hD⟩ := va_join (wr := [(h0, .inr (0, [.ref qb, .int 0, .int (-1), .int 0, .int 0, .null, .ref qm, .ref qe, .ref qo, .ref qi, .ref qw, .ref qt, .ref qs, .ref qp])), (qp, .inr (7, [.ref q10, .ref q11, .int 0, .int 0]))]) (w1 := [(qt, .inr (5, [.ref qb, .int 0, .int 0, .int 0, .int 0, .int 0]))]) hP hD [1] [0, 2] rfl rfl (by decide) (by decide) hk1 hFc hP1 hD1
  generalize H1 = H at hP hS ⊢
  have hP : va_P (dC, dI) vwCl [(h0, .inr (0, [.ref qb, .int 0, .int (-1), .int 0, .int 0, .null, .ref qm, .ref qe, .ref qo, .ref qi, .ref qw, .ref qt, .ref qs, .ref qp])), (qp, .inr (7, [.ref q10, .ref q11, .int 0, .int 0])), (qt, .inr (5, [.ref qb, .int 0, .int 0, .int 0, .int 0, .int 0]))] H := hP
  have hD : va_D A [(h0, .inr (0, [.ref qb, .int 0, .int (-1), .int 0, .int 0, .null, .ref qm, .ref qe, .ref qo, .ref qi, .ref qw, .ref qt, .ref qs, .ref qp])), (qp, .inr (7, [.ref q10, .ref q11, .int 0, .int 0])), (qt, .inr (5, [.ref qb, .int 0, .int 0, .int 0, .int 0, .int 0]))] := hD
  refine lv_iconst (v := 0) hx hb px_d19_58 (by decide) ?_
  refine lv_istore_n (lv' := [(3, .int 0), (2, .int 0), (1, .int 0), (0, .ref h0)]) hx hb px_d19_59 rfl hl (by decide) rfl (fun ls hl => ?_)
  refine lv_iload_n hx hb px_d19_60 rfl (lv_at hl 0 rfl) ?_
  refine lv_sipush (v := 400) hx hb px_d19_61 (by decide) ?_
  refine lv_icmp_ge (tgt := 210) hx hb px_d19_64 (by decide) (fun h9 => absurd h9 (by decide +kernel)) (fun _ => ?_)
  refine lv_aload_n hx hb px_d19_67 rfl (lv_at hl 3 rfl) ?_
  refine va_get (D := (dC, dI)) (ci := 0) (v := .int 0) (C := "MatroidDesk") (T := px_T0) (N := 14) hx hb htw px_in0 hown hK hP 0 rfl rfl 3 (by decide) (htw _ px_w212) (fun _ h9 => h9) rfl px_d19_68 ?_
  refine lv_if_ne (tgt := 210) hx hb px_d19_71 (by decide) (fun h9 => absurd (by decide +kernel) h9) (fun _ => ?_)
  refine lv_aload_n hx hb px_d19_74 rfl (lv_at hl 3 rfl) ?_
  refine va_get (D := (dC, dI)) (ci := 0) (v := .ref qt) (C := "MatroidDesk") (T := px_T0) (N := 14) hx hb htw px_in0 hown hK hP 0 rfl rfl 11 (by decide) (htw _ px_w229) (fun _ h9 => h9) rfl px_d19_75 ?_
  refine va_getN (D := (dC, dI)) (ci := 5) (v := .int 0) (C := "MatroidDesk$Tokens") (T := px_T5) (N := 6) hx hb htw px_in5 hown hK hP 2 rfl rfl 4 (by decide) (va_Nw.use (w := .fieldLinkNest "MatroidDesk" 122 "MatroidDesk$Tokens" "kind" "I" "MatroidDesk") rfl (hN.1 ("MatroidDesk", 122, "MatroidDesk$Tokens", "kind", "I", "MatroidDesk") (by decide))) (fun _ h9 => h9) rfl px_d19_78 ?_
  refine lv_if_eq (tgt := 210) hx hb px_d19_81 (by decide) (fun _ => ?_) (fun h9 => absurd (by decide +kernel) h9)
  refine lv_iload_n hx hb px_d19_210 rfl (lv_at hl 1 rfl) ?_
  have hP9 := hP.sub (ws' := []) [] rfl
  have hD9 := hD.sub (ws' := []) [] (by decide) rfl
  have hK9 := hK.sub (tys' := []) [] rfl
  refine W.widen (k := 0) (n := 0) (Nat.le_of_ble_eq_true rfl) (Nat.le_of_ble_eq_true rfl) ?_
  exact W.iret (v := 0) hx hb hr (fun t ht hW => ⟨⟨0, (), rfl, rfl, by rw [ht]; exact hP9, va_K.moved hW.alike hK9, hD9⟩, hS.F ht⟩) hS.2.2 px_d19_211
