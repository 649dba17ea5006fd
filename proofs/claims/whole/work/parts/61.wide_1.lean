/-! MatroidDesk$Wide.halve()V -/
def w324_wp (post : Int64 → Int64 → Int64 → Prop) (w0_low : Int64) (w0_middle : Int64) (w0_high : Int64) : Prop := ∀ z1 : Int64, z1 = ((w0_low : Int64) >>> ((1 : Int32).toInt64 &&& 63)) ||| ((w0_middle &&& 1 : Int64) <<< ((47 : Int32).toInt64 &&& 63)) → ∀ z2 : Int64, z2 = ((w0_middle : Int64) >>> ((1 : Int32).toInt64 &&& 63)) ||| ((w0_high &&& 1 : Int64) <<< ((47 : Int32).toInt64 &&& 63)) → ∀ z3 : Int64, z3 = (w0_high : Int64) >>> ((1 : Int32).toInt64 &&& 63) → post z1 z2 z3
set_option maxHeartbeats 8000000 in
set_option maxRecDepth 100000 in
theorem w324_met (l : Launch) (dC : Nat → ClassId) (dI : Nat → Nat → Nat) (sz : Nat) (h0 : Nat) (w0_low : Int64) (w0_middle : Int64) (w0_high : Int64) (post : Int64 → Int64 → Int64 → Prop) (hw : w324_wp post w0_low w0_middle w0_high) : Met l px_y324 px_s324 ({ frames := 0, cells := 0, slots := 0, locals := 0 }) (va_Pc [.ref h0] (fun U => U.heap.size = sz ∧ va_P (dC, dI) vwCl [(h0, .inr (3, [.long w0_low, .long w0_middle, .long w0_high]))] U.heap ∧ va_K (dC, dI) vwCl [] U ∧ va_D (fun _ => True) [(h0, .inr (3, [.long w0_low, .long w0_middle, .long w0_high]))] ∧ px_N U)) (va_Qv (fun (u : Int64 × Int64 × Int64) => post u.1 u.2.1 u.2.2) (fun (u : Int64 × Int64 × Int64) (t : State) => va_P (dC, dI) vwCl [(h0, .inr (3, [.long u.1, .long u.2.1, .long u.2.2]))] t.heap ∧ va_K (dC, dI) vwCl [] t ∧ va_D (va_A [(h0, .inr (3, [.long w0_low, .long w0_middle, .long w0_high]))] sz) [(h0, .inr (3, [.long u.1, .long u.2.1, .long u.2.2]))]) (va_A [(h0, .inr (3, [.long w0_low, .long w0_middle, .long w0_high]))] sz)) 0 0 (va_A [(h0, .inr (3, [.long w0_low, .long w0_middle, .long w0_high]))] sz) := by
  refine Met.ofW (cc := prog_12_method_15_code) (maxL := 1) (ret := none) (by decide) rfl ?_
  intro p e s m args below meth c s₁ B hml hv
  obtain ⟨rfl, hsz, hP, hK, hD0, hN⟩ := hv
  have hx := B.exec
  have hb := B.bytes
  have hr := B.returns
  have htw : ∀ w ∈ px_all, w.before _ s = true := fun w h => atoms_spec (ws := px_s324) B.pre w (List.mem_cons_of_mem _ h)
  have hown : s.vm.findClass "MatroidDesk$Wide" = some m.cls := findClass_of_methodNamed B.named
  have hlocks := B.notSynchronized
  subst hsz
  have hD := hD0.self (sz := s.heap.size)
  generalize hAe : va_A [(h0, .inr (3, [.long w0_low, .long w0_middle, .long w0_high]))] s.heap.size = A at hD ⊢
  have hA : ∀ q : Nat, s.heap.size ≤ q → A q := fun q h => by rw [← hAe]; exact Or.inr h
  have hS : va_S A s.heap s.heap [] := va_S.rf
  have hP : va_P (dC, dI) vwCl [(h0, .inr (3, [.long w0_low, .long w0_middle, .long w0_high]))] s.heap := hP
  have hl := lv_entry ([.ref h0]) (n := 1) (Nat.le_of_ble_eq_true rfl)
  rw [lg_entry_eq]
  generalize (lg_sl ([.ref h0]) ++ List.replicate (1 - (lg_sl ([.ref h0])).length) Slot.unset).toArray = ls at hl ⊢
  have hl : lv_has ls 1 [(0, .ref h0)] := hl
  generalize hQ : MQ _ _ _ _ _ _ _ = Q
  unfold w324_wp at hw
  have hS0 := hS
  obtain ⟨H, hH9⟩ : ∃ z, z = s.heap := ⟨_, rfl⟩
  have hP : va_P (dC, dI) vwCl [(h0, .inr (3, [.long w0_low, .long w0_middle, .long w0_high]))] H := by rw [hH9]; exact hP
  obtain ⟨locs, hlo9⟩ : ∃ z : List Loc, z = [] := ⟨_, rfl⟩
  have hS : va_S A s.heap H locs := by rw [hH9, hlo9]; exact hS
  suffices hG : W p l e (headSpec px_s324 ({ frames := 0, cells := 0, slots := 0, locals := 0 })).room s m ([.ref h0]).toArray below meth c H locs 0 0 Q (F0 m 0 ls []) by rw [hH9, hlo9] at hG; exact hG
  refine lv_aload_n hx hb px_d324_0 rfl (lv_at hl 0 rfl) ?_
  refine lv_aload_n hx hb px_d324_1 rfl (lv_at hl 0 rfl) ?_
  refine va_get (D := (dC, dI)) (ci := 3) (v := .long w0_low) (C := "MatroidDesk$Wide") (T := px_T3) (N := 3) hx hb htw px_in3 hown hK hP 0 rfl rfl 0 (by decide) (htw _ px_w1593) (fun _ h9 => h9) rfl px_d324_2 ?_
  refine lv_iconst (v := 1) hx hb px_d324_5 (by decide) ?_
  refine lv_lshr (v := (w0_low : Int64) >>> ((1 : Int32).toInt64 &&& 63)) hx hb px_d324_6 rfl ?_
  refine lv_aload_n hx hb px_d324_7 rfl (lv_at hl 0 rfl) ?_
  refine va_get (D := (dC, dI)) (ci := 3) (v := .long w0_middle) (C := "MatroidDesk$Wide") (T := px_T3) (N := 3) hx hb htw px_in3 hown hK hP 0 rfl rfl 1 (by decide) (htw _ px_w1594) (fun _ h9 => h9) rfl px_d324_8 ?_
  refine lv_lconst (v := 1) hx hb px_d324_11 (by decide) ?_
  refine lv_land hx hb px_d324_12 ?_
  refine lv_bipush (v := 47) hx hb px_d324_13 (by decide) ?_
  refine lv_lshl (v := (w0_middle &&& 1 : Int64) <<< ((47 : Int32).toInt64 &&& 63)) hx hb px_d324_15 rfl ?_
  refine lv_lor hx hb px_d324_16 ?_
  refine lv_topl (fun z1 ez1 => ?_)
  have hw := hw z1 ez1
  refine va_put (D := (dC, dI)) (ci := 3) (v := .long z1) (ty := .long) (C := "MatroidDesk$Wide") (T := px_T3) (N := 3) hx hb htw px_in3 px_ty3 px_tyok3 px_nm3 hown hK hP hD hS 0 rfl rfl 0 (by decide) (htw _ px_w1593) (fun _ h9 => h9) rfl (by decide +kernel) rfl rfl (Nat.le_of_ble_eq_true rfl) px_d324_17 (fun H locs hP hD hS => ?_)
  have hP : va_P (dC, dI) vwCl [(h0, .inr (3, [.long z1, .long w0_middle, .long w0_high]))] H := hP
  have hD : va_D A [(h0, .inr (3, [.long z1, .long w0_middle, .long w0_high]))] := hD
  refine lv_aload_n hx hb px_d324_20 rfl (lv_at hl 0 rfl) ?_
  refine lv_aload_n hx hb px_d324_21 rfl (lv_at hl 0 rfl) ?_
  refine va_get (D := (dC, dI)) (ci := 3) (v := .long w0_middle) (C := "MatroidDesk$Wide") (T := px_T3) (N := 3) hx hb htw px_in3 hown hK hP 0 rfl rfl 1 (by decide) (htw _ px_w1594) (fun _ h9 => h9) rfl px_d324_22 ?_
  refine lv_iconst (v := 1) hx hb px_d324_25 (by decide) ?_
  refine lv_lshr (v := (w0_middle : Int64) >>> ((1 : Int32).toInt64 &&& 63)) hx hb px_d324_26 rfl ?_
  refine lv_aload_n hx hb px_d324_27 rfl (lv_at hl 0 rfl) ?_
  refine va_get (D := (dC, dI)) (ci := 3) (v := .long w0_high) (C := "MatroidDesk$Wide") (T := px_T3) (N := 3) hx hb htw px_in3 hown hK hP 0 rfl rfl 2 (by decide) (htw _ px_w1595) (fun _ h9 => h9) rfl px_d324_28 ?_
  refine lv_lconst (v := 1) hx hb px_d324_31 (by decide) ?_
  refine lv_land hx hb px_d324_32 ?_
  refine lv_bipush (v := 47) hx hb px_d324_33 (by decide) ?_
  refine lv_lshl (v := (w0_high &&& 1 : Int64) <<< ((47 : Int32).toInt64 &&& 63)) hx hb px_d324_35 rfl ?_
  refine lv_lor hx hb px_d324_36 ?_
  refine lv_topl (fun z2 ez2 => ?_)
  have hw := hw z2 ez2
  refine va_put (D := (dC, dI)) (ci := 3) (v := .long z2) (ty := .long) (C := "MatroidDesk$Wide") (T := px_T3) (N := 3) hx hb htw px_in3 px_ty3 px_tyok3 px_nm3 hown hK hP hD hS 0 rfl rfl 1 (by decide) (htw _ px_w1594) (fun _ h9 => h9) rfl (by decide +kernel) rfl rfl (Nat.le_of_ble_eq_true rfl) px_d324_37 (fun H locs hP hD hS => ?_)
  have hP : va_P (dC, dI) vwCl [(h0, .inr (3, [.long z1, .long z2, .long w0_high]))] H := hP
  have hD : va_D A [(h0, .inr (3, [.long z1, .long z2, .long w0_high]))] := hD
  refine lv_aload_n hx hb px_d324_40 rfl (lv_at hl 0 rfl) ?_
  refine lv_dup hx hb px_d324_41 rfl ?_
  refine va_get (D := (dC, dI)) (ci := 3) (v := .long w0_high) (C := "MatroidDesk$Wide") (T := px_T3) (N := 3) hx hb htw px_in3 hown hK hP 0 rfl rfl 2 (by decide) (htw _ px_w1595) (fun _ h9 => h9) rfl px_d324_42 ?_
  refine lv_iconst (v := 1) hx hb px_d324_45 (by decide) ?_
  refine lv_lshr (v := (w0_high : Int64) >>> ((1 : Int32).toInt64 &&& 63)) hx hb px_d324_46 rfl ?_
  refine lv_topl (fun z3 ez3 => ?_)
  have hw := hw z3 ez3
  refine va_put (D := (dC, dI)) (ci := 3) (v := .long z3) (ty := .long) (C := "MatroidDesk$Wide") (T := px_T3) (N := 3) hx hb htw px_in3 px_ty3 px_tyok3 px_nm3 hown hK hP hD hS 0 rfl rfl 2 (by decide) (htw _ px_w1595) (fun _ h9 => h9) rfl (by decide +kernel) rfl rfl (Nat.le_of_ble_eq_true rfl) px_d324_47 (fun H locs hP hD hS => ?_)
  have hP : va_P (dC, dI) vwCl [(h0, .inr (3, [.long z1, .long z2, .long z3]))] H := hP
  have hD : va_D A [(h0, .inr (3, [.long z1, .long z2, .long z3]))] := hD
  rw [← hQ]
  exact W.vret hx hb hr (fun t ht hW => ⟨⟨(z1, z2, z3), rfl, hw, by rw [ht]; exact hP, va_K.moved hW.alike hK, hD⟩, hS.F ht⟩) hS.2.2 px_d324_50

/-! MatroidDesk$Wide.twice(I)V -/
def w329_wp (post : Int64 → Int64 → Int64 → Prop) (a0x : Int32) (w0_low : Int64) (w0_middle : Int64) (w0_high : Int64) : Prop := ∀ z1 : Int64, z1 = ((w0_high : Int64) <<< ((1 : Int32).toInt64 &&& 63)) ||| ((w0_middle : Int64) >>> ((47 : Int32).toInt64 &&& 63)) → ∀ z2 : Int64, z2 = (((w0_middle : Int64) <<< ((1 : Int32).toInt64 &&& 63)) &&& 281474976710655) ||| ((w0_low : Int64) >>> ((47 : Int32).toInt64 &&& 63)) → ∀ z3 : Int64, z3 = (((w0_low : Int64) <<< ((1 : Int32).toInt64 &&& 63)) &&& 281474976710655) ||| a0x.toInt64 → post z3 z2 z1
set_option maxHeartbeats 8000000 in
set_option maxRecDepth 100000 in
theorem w329_met (l : Launch) (dC : Nat → ClassId) (dI : Nat → Nat → Nat) (sz : Nat) (h0 : Nat) (a0x : Int32) (w0_low : Int64) (w0_middle : Int64) (w0_high : Int64) (post : Int64 → Int64 → Int64 → Prop) (hw : w329_wp post a0x w0_low w0_middle w0_high) : Met l px_y329 px_s329 ({ frames := 0, cells := 0, slots := 0, locals := 0 }) (va_Pc [.ref h0, .int a0x] (fun U => U.heap.size = sz ∧ va_P (dC, dI) vwCl [(h0, .inr (3, [.long w0_low, .long w0_middle, .long w0_high]))] U.heap ∧ va_K (dC, dI) vwCl [] U ∧ va_D (fun _ => True) [(h0, .inr (3, [.long w0_low, .long w0_middle, .long w0_high]))] ∧ px_N U)) (va_Qv (fun (u : Int64 × Int64 × Int64) => post u.1 u.2.1 u.2.2) (fun (u : Int64 × Int64 × Int64) (t : State) => va_P (dC, dI) vwCl [(h0, .inr (3, [.long u.1, .long u.2.1, .long u.2.2]))] t.heap ∧ va_K (dC, dI) vwCl [] t ∧ va_D (va_A [(h0, .inr (3, [.long w0_low, .long w0_middle, .long w0_high]))] sz) [(h0, .inr (3, [.long u.1, .long u.2.1, .long u.2.2]))]) (va_A [(h0, .inr (3, [.long w0_low, .long w0_middle, .long w0_high]))] sz)) 0 0 (va_A [(h0, .inr (3, [.long w0_low, .long w0_middle, .long w0_high]))] sz) := by
  refine Met.ofW (cc := prog_12_method_16_code) (maxL := 2) (ret := none) (by decide) rfl ?_
  intro p e s m args below meth c s₁ B hml hv
  obtain ⟨rfl, hsz, hP, hK, hD0, hN⟩ := hv
  have hx := B.exec
  have hb := B.bytes
  have hr := B.returns
  have htw : ∀ w ∈ px_all, w.before _ s = true := fun w h => atoms_spec (ws := px_s329) B.pre w (List.mem_cons_of_mem _ h)
  have hown : s.vm.findClass "MatroidDesk$Wide" = some m.cls := findClass_of_methodNamed B.named
  have hlocks := B.notSynchronized
  subst hsz
  have hD := hD0.self (sz := s.heap.size)
  generalize hAe : va_A [(h0, .inr (3, [.long w0_low, .long w0_middle, .long w0_high]))] s.heap.size = A at hD ⊢
  have hA : ∀ q : Nat, s.heap.size ≤ q → A q := fun q h => by rw [← hAe]; exact Or.inr h
  have hS : va_S A s.heap s.heap [] := va_S.rf
  have hP : va_P (dC, dI) vwCl [(h0, .inr (3, [.long w0_low, .long w0_middle, .long w0_high]))] s.heap := hP
  have hl := lv_entry ([.ref h0, .int a0x]) (n := 2) (Nat.le_of_ble_eq_true rfl)
  rw [lg_entry_eq]
  generalize (lg_sl ([.ref h0, .int a0x]) ++ List.replicate (2 - (lg_sl ([.ref h0, .int a0x])).length) Slot.unset).toArray = ls at hl ⊢
  have hl : lv_has ls 2 [(0, .ref h0), (1, .int a0x)] := hl
  generalize hQ : MQ _ _ _ _ _ _ _ = Q
  unfold w329_wp at hw
  have hS0 := hS
  obtain ⟨H, hH9⟩ : ∃ z, z = s.heap := ⟨_, rfl⟩
  have hP : va_P (dC, dI) vwCl [(h0, .inr (3, [.long w0_low, .long w0_middle, .long w0_high]))] H := by rw [hH9]; exact hP
  obtain ⟨locs, hlo9⟩ : ∃ z : List Loc, z = [] := ⟨_, rfl⟩
  have hS : va_S A s.heap H locs := by rw [hH9, hlo9]; exact hS
  suffices hG : W p l e (headSpec px_s329 ({ frames := 0, cells := 0, slots := 0, locals := 0 })).room s m ([.ref h0, .int a0x]).toArray below meth c H locs 0 0 Q (F0 m 0 ls []) by rw [hH9, hlo9] at hG; exact hG
  refine lv_aload_n hx hb px_d329_0 rfl (lv_at hl 0 rfl) ?_
  refine lv_aload_n hx hb px_d329_1 rfl (lv_at hl 0 rfl) ?_
  refine va_get (D := (dC, dI)) (ci := 3) (v := .long w0_high) (C := "MatroidDesk$Wide") (T := px_T3) (N := 3) hx hb htw px_in3 hown hK hP 0 rfl rfl 2 (by decide) (htw _ px_w1595) (fun _ h9 => h9) rfl px_d329_2 ?_
  refine lv_iconst (v := 1) hx hb px_d329_5 (by decide) ?_
  refine lv_lshl (v := (w0_high : Int64) <<< ((1 : Int32).toInt64 &&& 63)) hx hb px_d329_6 rfl ?_
  refine lv_aload_n hx hb px_d329_7 rfl (lv_at hl 0 rfl) ?_
  refine va_get (D := (dC, dI)) (ci := 3) (v := .long w0_middle) (C := "MatroidDesk$Wide") (T := px_T3) (N := 3) hx hb htw px_in3 hown hK hP 0 rfl rfl 1 (by decide) (htw _ px_w1594) (fun _ h9 => h9) rfl px_d329_8 ?_
  refine lv_bipush (v := 47) hx hb px_d329_11 (by decide) ?_
  refine lv_lshr (v := (w0_middle : Int64) >>> ((47 : Int32).toInt64 &&& 63)) hx hb px_d329_13 rfl ?_
  refine lv_lor hx hb px_d329_14 ?_
  refine lv_topl (fun z1 ez1 => ?_)
  have hw := hw z1 ez1
  refine va_put (D := (dC, dI)) (ci := 3) (v := .long z1) (ty := .long) (C := "MatroidDesk$Wide") (T := px_T3) (N := 3) hx hb htw px_in3 px_ty3 px_tyok3 px_nm3 hown hK hP hD hS 0 rfl rfl 2 (by decide) (htw _ px_w1595) (fun _ h9 => h9) rfl (by decide +kernel) rfl rfl (Nat.le_of_ble_eq_true rfl) px_d329_15 (fun H locs hP hD hS => ?_)
  have hP : va_P (dC, dI) vwCl [(h0, .inr (3, [.long w0_low, .long w0_middle, .long z1]))] H := hP
  have hD : va_D A [(h0, .inr (3, [.long w0_low, .long w0_middle, .long z1]))] := hD
  refine lv_aload_n hx hb px_d329_18 rfl (lv_at hl 0 rfl) ?_
  refine lv_aload_n hx hb px_d329_19 rfl (lv_at hl 0 rfl) ?_
  refine va_get (D := (dC, dI)) (ci := 3) (v := .long w0_middle) (C := "MatroidDesk$Wide") (T := px_T3) (N := 3) hx hb htw px_in3 hown hK hP 0 rfl rfl 1 (by decide) (htw _ px_w1594) (fun _ h9 => h9) rfl px_d329_20 ?_
  refine lv_iconst (v := 1) hx hb px_d329_23 (by decide) ?_
  refine lv_lshl (v := (w0_middle : Int64) <<< ((1 : Int32).toInt64 &&& 63)) hx hb px_d329_24 rfl ?_
  refine lv_ldc2 hx hb (own := "MatroidDesk$Wide") (index := 9) (v := 281474976710655) hown (htw _ px_w1592) px_d329_25 ?_
  refine lv_land hx hb px_d329_28 ?_
  refine lv_aload_n hx hb px_d329_29 rfl (lv_at hl 0 rfl) ?_
  refine va_get (D := (dC, dI)) (ci := 3) (v := .long w0_low) (C := "MatroidDesk$Wide") (T := px_T3) (N := 3) hx hb htw px_in3 hown hK hP 0 rfl rfl 0 (by decide) (htw _ px_w1593) (fun _ h9 => h9) rfl px_d329_30 ?_
  refine lv_bipush (v := 47) hx hb px_d329_33 (by decide) ?_
  refine lv_lshr (v := (w0_low : Int64) >>> ((47 : Int32).toInt64 &&& 63)) hx hb px_d329_35 rfl ?_
  refine lv_lor hx hb px_d329_36 ?_
  refine lv_topl (fun z2 ez2 => ?_)
  have hw := hw z2 ez2
  refine va_put (D := (dC, dI)) (ci := 3) (v := .long z2) (ty := .long) (C := "MatroidDesk$Wide") (T := px_T3) (N := 3) hx hb htw px_in3 px_ty3 px_tyok3 px_nm3 hown hK hP hD hS 0 rfl rfl 1 (by decide) (htw _ px_w1594) (fun _ h9 => h9) rfl (by decide +kernel) rfl rfl (Nat.le_of_ble_eq_true rfl) px_d329_37 (fun H locs hP hD hS => ?_)
  have hP : va_P (dC, dI) vwCl [(h0, .inr (3, [.long w0_low, .long z2, .long z1]))] H := hP
  have hD : va_D A [(h0, .inr (3, [.long w0_low, .long z2, .long z1]))] := hD
  refine lv_aload_n hx hb px_d329_40 rfl (lv_at hl 0 rfl) ?_
  refine lv_aload_n hx hb px_d329_41 rfl (lv_at hl 0 rfl) ?_
  refine va_get (D := (dC, dI)) (ci := 3) (v := .long w0_low) (C := "MatroidDesk$Wide") (T := px_T3) (N := 3) hx hb htw px_in3 hown hK hP 0 rfl rfl 0 (by decide) (htw _ px_w1593) (fun _ h9 => h9) rfl px_d329_42 ?_
  refine lv_iconst (v := 1) hx hb px_d329_45 (by decide) ?_
  refine lv_lshl (v := (w0_low : Int64) <<< ((1 : Int32).toInt64 &&& 63)) hx hb px_d329_46 rfl ?_
  refine lv_ldc2 hx hb (own := "MatroidDesk$Wide") (index := 9) (v := 281474976710655) hown (htw _ px_w1592) px_d329_47 ?_
  refine lv_land hx hb px_d329_50 ?_
  refine lv_iload_n hx hb px_d329_51 rfl (lv_at hl 1 rfl) ?_
  refine lv_i2l (v := a0x.toInt64) hx hb px_d329_52 rfl ?_
  refine lv_lor hx hb px_d329_53 ?_
  refine lv_topl (fun z3 ez3 => ?_)
  have hw := hw z3 ez3
  refine va_put (D := (dC, dI)) (ci := 3) (v := .long z3) (ty := .long) (C := "MatroidDesk$Wide") (T := px_T3) (N := 3) hx hb htw px_in3 px_ty3 px_tyok3 px_nm3 hown hK hP hD hS 0 rfl rfl 0 (by decide) (htw _ px_w1593) (fun _ h9 => h9) rfl (by decide +kernel) rfl rfl (Nat.le_of_ble_eq_true rfl) px_d329_54 (fun H locs hP hD hS => ?_)
  have hP : va_P (dC, dI) vwCl [(h0, .inr (3, [.long z3, .long z2, .long z1]))] H := hP
  have hD : va_D A [(h0, .inr (3, [.long z3, .long z2, .long z1]))] := hD
  rw [← hQ]
  exact W.vret hx hb hr (fun t ht hW => ⟨⟨(z3, z2, z1), rfl, hw, by rw [ht]; exact hP, va_K.moved hW.alike hK, hD⟩, hS.F ht⟩) hS.2.2 px_d329_57

/-! MatroidDesk$Wide.takeShortCommon(JJ)V -/
def w322_L44 (post : Int64 → Int64 → Int64 → Prop) (x1 : Int64) (x3 : Int64) (x5 : Int64) (x7 : Int64) (x9 : Int32) (w0_low : Int64) (w0_middle : Int64) (w0_high : Int64) : Prop := w317_wp (fun r49 v1 v2 v3 => post v1 v2 v3) x5 0 0 w0_low w0_middle w0_high
def w322_L9 (post : Int64 → Int64 → Int64 → Prop) : Nat → Int64 → Int64 → Int64 → Int64 → Int32 → Int64 → Int64 → Int64 → Prop
  | 0 => fun _ _ _ _ _ _ _ _ => False
  | k + 1 => fun x1 x3 x5 x7 x9 w0_low w0_middle w0_high => (100 ≤ x9 → w322_L44 post x1 x3 x5 x7 x9 w0_low w0_middle w0_high) ∧ (¬ 100 ≤ x9 → ((lg_cmp x7 0) = 0 → w322_L44 post x1 x3 x5 x7 x9 w0_low w0_middle w0_high) ∧ (¬ (lg_cmp x7 0) = 0 → ¬ x7 = 0 ∧ (∀ z4 : Int64, z4 = x5 - x5 / x7 * x7 → ∀ z5 : Int32, z5 = x9 + 1 → (w322_L9 post k) x1 x3 x7 z4 z5 w0_low w0_middle w0_high)))
def w322_wp (post : Int64 → Int64 → Int64 → Prop) (a0x : Int64) (a1x : Int64) (w0_low : Int64) (w0_middle : Int64) (w0_high : Int64) : Prop := ∃ j9, w322_L9 post j9 a0x a1x a0x a1x 0 w0_low w0_middle w0_high
set_option maxHeartbeats 8000000 in
set_option maxRecDepth 100000 in
theorem w322_met (l : Launch) (dC : Nat → ClassId) (dI : Nat → Nat → Nat) (sz : Nat) (h0 : Nat) (a0x : Int64) (a1x : Int64) (w0_low : Int64) (w0_middle : Int64) (w0_high : Int64) (post : Int64 → Int64 → Int64 → Prop) (hw : w322_wp post a0x a1x w0_low w0_middle w0_high) : Met l px_y322 px_s322 ({ frames := 1, cells := 0, slots := 0, locals := 31 }) (va_Pc [.ref h0, .long a0x, .long a1x] (fun U => U.heap.size = sz ∧ va_P (dC, dI) vwCl [(h0, .inr (3, [.long w0_low, .long w0_middle, .long w0_high]))] U.heap ∧ va_K (dC, dI) vwCl [] U ∧ va_D (fun _ => True) [(h0, .inr (3, [.long w0_low, .long w0_middle, .long w0_high]))] ∧ px_N U)) (va_Qv (fun (u : Int64 × Int64 × Int64) => post u.1 u.2.1 u.2.2) (fun (u : Int64 × Int64 × Int64) (t : State) => va_P (dC, dI) vwCl [(h0, .inr (3, [.long u.1, .long u.2.1, .long u.2.2]))] t.heap ∧ va_K (dC, dI) vwCl [] t ∧ va_D (va_A [(h0, .inr (3, [.long w0_low, .long w0_middle, .long w0_high]))] sz) [(h0, .inr (3, [.long u.1, .long u.2.1, .long u.2.2]))]) (va_A [(h0, .inr (3, [.long w0_low, .long w0_middle, .long w0_high]))] sz)) 0 0 (va_A [(h0, .inr (3, [.long w0_low, .long w0_middle, .long w0_high]))] sz) := by
  refine Met.ofW (cc := prog_12_method_10_code) (maxL := 12) (ret := none) (by decide) rfl ?_
  intro p e s m args below meth c s₁ B hml hv
  obtain ⟨rfl, hsz, hP, hK, hD0, hN⟩ := hv
  have hx := B.exec
  have hb := B.bytes
  have hr := B.returns
  have htw : ∀ w ∈ px_all, w.before _ s = true := fun w h => atoms_spec (ws := px_s322) B.pre w (List.mem_cons_of_mem _ h)
  have hown : s.vm.findClass "MatroidDesk$Wide" = some m.cls := findClass_of_methodNamed B.named
  have hlocks := B.notSynchronized
  subst hsz
  have hD := hD0.self (sz := s.heap.size)
  generalize hAe : va_A [(h0, .inr (3, [.long w0_low, .long w0_middle, .long w0_high]))] s.heap.size = A at hD ⊢
  have hA : ∀ q : Nat, s.heap.size ≤ q → A q := fun q h => by rw [← hAe]; exact Or.inr h
  have hS : va_S A s.heap s.heap [] := va_S.rf
  have hP : va_P (dC, dI) vwCl [(h0, .inr (3, [.long w0_low, .long w0_middle, .long w0_high]))] s.heap := hP
  have hl := lv_entry ([.ref h0, .long a0x, .long a1x]) (n := 12) (Nat.le_of_ble_eq_true rfl)
  rw [lg_entry_eq]
  generalize (lg_sl ([.ref h0, .long a0x, .long a1x]) ++ List.replicate (12 - (lg_sl ([.ref h0, .long a0x, .long a1x])).length) Slot.unset).toArray = ls at hl ⊢
  have hl : lv_has ls 12 [(0, .ref h0), (1, .long a0x), (3, .long a1x)] := hl
  generalize hQ : MQ _ _ _ _ _ _ _ = Q
  have S44 : ∀ (x1 : Int64) (x3 : Int64) (x5 : Int64) (x7 : Int64) (x9 : Int32) (w0_low : Int64) (w0_middle : Int64) (w0_high : Int64) (H : Heap) (locs : List Loc) (ls : Array Slot), va_P (dC, dI) vwCl [(h0, .inr (3, [.long w0_low, .long w0_middle, .long w0_high]))] H → va_D A [(h0, .inr (3, [.long w0_low, .long w0_middle, .long w0_high]))] → va_S A s.heap H locs → lv_has ls 12 [(0, .ref h0), (1, .long x1), (3, .long x3), (5, .long x5), (7, .long x7), (9, .int x9)] → w322_L44 post x1 x3 x5 x7 x9 w0_low w0_middle w0_high → W p l e (headSpec px_s322 ({ frames := 1, cells := 0, slots := 0, locals := 31 })).room s m ([.ref h0, .long a0x, .long a1x]).toArray below meth c H locs 0 0 Q (F0 m 44 ls []) := by
    intro x1 x3 x5 x7 x9 w0_low w0_middle w0_high H locs ls hP hD hS hl hw
    unfold w322_L44 at hw
    refine lv_aload_n hx hb px_d322_44 rfl (lv_at hl 0 rfl) ?_
    refine lv_lload hx hb px_d322_45 (lv_at hl 3 rfl) ?_
    refine lv_lconst (v := 0) hx hb px_d322_47 (by decide) ?_
    refine lv_lconst (v := 0) hx hb px_d322_48 (by decide) ?_
    have hPc := hP.sub (ws' := [(h0, .inr (3, [.long w0_low, .long w0_middle, .long w0_high]))]) [0] rfl
    have hDc := hD.sub (ws' := [(h0, .inr (3, [.long w0_low, .long w0_middle, .long w0_high]))]) [0] (by decide) rfl
    have hKc := hK.sub (tys' := []) [] rfl
    have hFc := va_free (wc := [(h0, .inr (3, [.long w0_low, .long w0_middle, .long w0_high]))]) hD hS hA [0] rfl
    refine va_calli (va_runV (As := [.long x5, .long 0, .long 0]) (rest := []) ⟨hx, hb, hml, hown, htw⟩ (w317_met l dC dI H.size h0 x5 0 0 w0_low w0_middle w0_high _ hw) (cwV 3 htw (px_gv px_w1621 px_w1590 px_w1591 px_w41 px_g317) rfl rfl rfl (by decide +kernel) ⟨Nat.le_of_ble_eq_true rfl, Nat.le_of_ble_eq_true rfl⟩) ⟨fun a U g mk q => by obtain ⟨q0, q1, qP, qK, qD, qN⟩ := q; exact ⟨q0, q1, qP, va_K.moved (u := U) (U := U.calling g mk a) (Vm.Alike.refl U.vm) qK, qD, qN.same rfl⟩, va_recv hK hP (ci := 3) (q0 := 0) rfl rfl, fun U hU hW => ⟨rfl, by rw [hU], by rw [hU]; exact hPc, va_K.moved hW.alike hKc, hDc.weaken (fun _ _ _ _ => trivial), hN.warm hW⟩⟩ rfl rfl hl.1 rfl (lv_room (Nat.le_of_ble_eq_true rfl)) px_d322_49 ⟨(Nat.le_of_ble_eq_true rfl), (Nat.le_of_ble_eq_true rfl)⟩) hS (fun q _ h => hFc q h) hFc (fun r49 u t H1 locs ht hvm hw hB hz1 hk1 hS => ?_)
    obtain ⟨v1, v2, v3⟩ := u
    obtain ⟨hP1, hK1, hD1⟩ := hB
    rw [ht] at hP1
    have hK1 := va_K.moved hvm.symm hK1
    obtain ⟨hP, hD⟩ := va_join (wr := []) (w1 := [(h0, .inr (3, [.long v1, .long v2, .long v3]))]) hP hD [0] [] rfl rfl (by decide) (by decide) hk1 hFc hP1 hD1
    generalize H1 = H at hP hS ⊢
    have hP : va_P (dC, dI) vwCl [(h0, .inr (3, [.long v1, .long v2, .long v3]))] H := hP
    have hD : va_D A [(h0, .inr (3, [.long v1, .long v2, .long v3]))] := hD
    refine lv_pop hx hb px_d322_52 rfl ?_
    rw [← hQ]
    exact W.vret hx hb hr (fun t ht hW => ⟨⟨(v1, v2, v3), rfl, hw, by rw [ht]; exact hP, va_K.moved hW.alike hK, hD⟩, hS.F ht⟩) hS.2.2 px_d322_53
  have S9 : ∀ (k9 : Nat) (x1 : Int64) (x3 : Int64) (x5 : Int64) (x7 : Int64) (x9 : Int32) (w0_low : Int64) (w0_middle : Int64) (w0_high : Int64) (H : Heap) (locs : List Loc) (ls : Array Slot), va_P (dC, dI) vwCl [(h0, .inr (3, [.long w0_low, .long w0_middle, .long w0_high]))] H → va_D A [(h0, .inr (3, [.long w0_low, .long w0_middle, .long w0_high]))] → va_S A s.heap H locs → lv_has ls 12 [(0, .ref h0), (1, .long x1), (3, .long x3), (5, .long x5), (7, .long x7), (9, .int x9)] → w322_L9 post k9 x1 x3 x5 x7 x9 w0_low w0_middle w0_high → W p l e (headSpec px_s322 ({ frames := 1, cells := 0, slots := 0, locals := 31 })).room s m ([.ref h0, .long a0x, .long a1x]).toArray below meth c H locs 0 0 Q (F0 m 9 ls []) := by
    intro k9
    induction k9 with
    | zero => intro x1 x3 x5 x7 x9 w0_low w0_middle w0_high H locs ls hP hD hS hl hw; exact False.elim hw
    | succ k9 ih9 =>
      intro x1 x3 x5 x7 x9 w0_low w0_middle w0_high H locs ls hP hD hS hl hw
      unfold w322_L9 at hw
      refine lv_iload hx hb px_d322_9 (lv_at hl 5 rfl) ?_
      refine lv_bipush (v := 100) hx hb px_d322_11 (by decide) ?_
      refine lv_icmp_ge (tgt := 44) hx hb px_d322_13 (by decide) (fun c13 => ?_) (fun c13 => ?_)
      · have hw := hw.1 c13
        exact S44 x1 x3 x5 x7 x9 w0_low w0_middle w0_high H locs ls hP hD hS (lv_sub hl [0, 1, 2, 3, 4, 5] rfl) hw
      · have hw := hw.2 c13
        refine lv_lload hx hb px_d322_16 (lv_at hl 4 rfl) ?_
        refine lv_lconst (v := 0) hx hb px_d322_18 (by decide) ?_
        refine W.lcmp hx hb px_d322_19 ?_
        refine lv_if_eq (tgt := 44) hx hb px_d322_20 (by decide) (fun c20 => ?_) (fun c20 => ?_)
        · have hw := hw.1 c20
          exact S44 x1 x3 x5 x7 x9 w0_low w0_middle w0_high H locs ls hP hD hS (lv_sub hl [0, 1, 2, 3, 4, 5] rfl) hw
        · have hw := hw.2 c20
          refine lv_lload hx hb px_d322_23 (lv_at hl 3 rfl) ?_
          refine lv_lload hx hb px_d322_25 (lv_at hl 4 rfl) ?_
          obtain ⟨hd27, hw⟩ := hw
          refine lv_lrem hx hb px_d322_27 hd27 ?_
          refine lv_topl (fun z4 ez4 => ?_)
          have hw := hw z4 ez4
          refine lv_lstore (lv' := [(10, .long z4), (0, .ref h0), (1, .long x1), (3, .long x3), (5, .long x5), (7, .long x7), (9, .int x9)]) hx hb px_d322_28 hl (by decide) rfl (fun ls hl => ?_)
          refine lv_lload hx hb px_d322_30 (lv_at hl 5 rfl) ?_
          refine lv_lstore (lv' := [(5, .long x7), (10, .long z4), (0, .ref h0), (1, .long x1), (3, .long x3), (7, .long x7), (9, .int x9)]) hx hb px_d322_32 hl (by decide) rfl (fun ls hl => ?_)
          refine lv_lload hx hb px_d322_34 (lv_at hl 1 rfl) ?_
          refine lv_lstore (lv' := [(7, .long z4), (5, .long x7), (10, .long z4), (0, .ref h0), (1, .long x1), (3, .long x3), (9, .int x9)]) hx hb px_d322_36 hl (by decide) rfl (fun ls hl => ?_)
          obtain ⟨z5, ez5⟩ : ∃ y : Int32, y = x9 + 1 := ⟨_, rfl⟩
          have hw := hw z5 ez5
          refine lv_iinc (v := z5) (lv' := [(9, .int z5), (7, .long z4), (5, .long x7), (10, .long z4), (0, .ref h0), (1, .long x1), (3, .long x3)]) hx hb px_d322_38 hl (k := 6) rfl (by rw [ez5]; rfl) (by decide) rfl (fun ls hl => ?_)
          refine lv_goto (tgt := 9) hx hb px_d322_41 (by decide) ?_
          exact ih9 x1 x3 x7 z4 z5 w0_low w0_middle w0_high H locs ls hP hD hS (lv_sub hl [4, 5, 6, 2, 1, 0] rfl) hw
  unfold w322_wp at hw
  have hS0 := hS
  obtain ⟨H, hH9⟩ : ∃ z, z = s.heap := ⟨_, rfl⟩
  have hP : va_P (dC, dI) vwCl [(h0, .inr (3, [.long w0_low, .long w0_middle, .long w0_high]))] H := by rw [hH9]; exact hP
  obtain ⟨locs, hlo9⟩ : ∃ z : List Loc, z = [] := ⟨_, rfl⟩
  have hS : va_S A s.heap H locs := by rw [hH9, hlo9]; exact hS
  suffices hG : W p l e (headSpec px_s322 ({ frames := 1, cells := 0, slots := 0, locals := 31 })).room s m ([.ref h0, .long a0x, .long a1x]).toArray below meth c H locs 0 0 Q (F0 m 0 ls []) by rw [hH9, hlo9] at hG; exact hG
  refine lv_lload_n hx hb px_d322_0 rfl (lv_at hl 1 rfl) ?_
  refine lv_lstore (lv' := [(5, .long a0x), (0, .ref h0), (1, .long a0x), (3, .long a1x)]) hx hb px_d322_1 hl (by decide) rfl (fun ls hl => ?_)
  refine lv_lload_n hx hb px_d322_3 rfl (lv_at hl 3 rfl) ?_
  refine lv_lstore (lv' := [(7, .long a1x), (5, .long a0x), (0, .ref h0), (1, .long a0x), (3, .long a1x)]) hx hb px_d322_4 hl (by decide) rfl (fun ls hl => ?_)
  refine lv_iconst (v := 0) hx hb px_d322_6 (by decide) ?_
  refine lv_istore (lv' := [(9, .int 0), (7, .long a1x), (5, .long a0x), (0, .ref h0), (1, .long a0x), (3, .long a1x)]) hx hb px_d322_7 hl (by decide) rfl (fun ls hl => ?_)
  obtain ⟨k9, hw⟩ := hw
  exact S9 k9 a0x a1x a0x a1x 0 w0_low w0_middle w0_high H locs ls hP hD hS (lv_sub hl [3, 4, 5, 2, 1, 0] rfl) hw

/-! MatroidDesk$Wide.takeCommon(LMatroidDesk$Wide;LMatroidDesk$Wide;LMatroidDesk$Wide;)V -/
def w319_L169 (post : Int64 → Int64 → Int64 → Int64 → Int64 → Int64 → Int64 → Int64 → Int64 → Int64 → Int64 → Int64 → Prop) : Nat → Int32 → Int32 → Int64 → Int64 → Int64 → Int64 → Int64 → Int64 → Int64 → Int64 → Int64 → Int64 → Int64 → Int64 → Prop
  | 0 => fun _ _ _ _ _ _ _ _ _ _ _ _ _ _ => False
  | k + 1 => fun x4 x5 w0_low w0_middle w0_high w1_low w1_middle w1_high w2_low w2_middle w2_high w3_low w3_middle w3_high => (x4 ≤ x5 → post w0_low w0_middle w0_high w1_low w1_middle w1_high w2_low w2_middle w2_high w3_low w3_middle w3_high) ∧ (¬ x4 ≤ x5 → w329_wp (fun v1 v2 v3 => ∀ z4 : Int32, z4 = x5 + 1 → (w319_L169 post k) x4 z4 v1 v2 v3 w1_low w1_middle w1_high w2_low w2_middle w2_high w3_low w3_middle w3_high) 0 w0_low w0_middle w0_high)
def w319_L166 (post : Int64 → Int64 → Int64 → Int64 → Int64 → Int64 → Int64 → Int64 → Int64 → Int64 → Int64 → Int64 → Prop) (x4 : Int32) (x5 : Int32) (w0_low : Int64) (w0_middle : Int64) (w0_high : Int64) (w1_low : Int64) (w1_middle : Int64) (w1_high : Int64) (w2_low : Int64) (w2_middle : Int64) (w2_high : Int64) (w3_low : Int64) (w3_middle : Int64) (w3_high : Int64) : Prop := ∃ j169, w319_L169 post j169 x4 0 w0_low w0_middle w0_high w1_low w1_middle w1_high w2_low w2_middle w2_high w3_low w3_middle w3_high
def w319_L160 (K43 : Int32 → Int32 → Int64 → Int64 → Int64 → Int64 → Int64 → Int64 → Int64 → Int64 → Int64 → Int64 → Int64 → Int64 → Prop) (post : Int64 → Int64 → Int64 → Int64 → Int64 → Int64 → Int64 → Int64 → Int64 → Int64 → Int64 → Int64 → Prop) (x4 : Int32) (x5 : Int32) (x6 : Int32) (x7 : Int32) (w0_low : Int64) (w0_middle : Int64) (w0_high : Int64) (w1_low : Int64) (w1_middle : Int64) (w1_high : Int64) (w2_low : Int64) (w2_middle : Int64) (w2_high : Int64) (w3_low : Int64) (w3_middle : Int64) (w3_high : Int64) : Prop := ∀ z5 : Int32, z5 = x5 + 1 → K43 x4 z5 w0_low w0_middle w0_high w1_low w1_middle w1_high w2_low w2_middle w2_high w3_low w3_middle w3_high
def w319_L155 (K43 : Int32 → Int32 → Int64 → Int64 → Int64 → Int64 → Int64 → Int64 → Int64 → Int64 → Int64 → Int64 → Int64 → Int64 → Prop) (post : Int64 → Int64 → Int64 → Int64 → Int64 → Int64 → Int64 → Int64 → Int64 → Int64 → Int64 → Int64 → Prop) (x4 : Int32) (x5 : Int32) (x6 : Int32) (x7 : Int32) (w0_low : Int64) (w0_middle : Int64) (w0_high : Int64) (w1_low : Int64) (w1_middle : Int64) (w1_high : Int64) (w2_low : Int64) (w2_middle : Int64) (w2_high : Int64) (w3_low : Int64) (w3_middle : Int64) (w3_high : Int64) : Prop := w328_wp (fun v6 v7 v8 v9 v10 v11 => w319_L160 K43 post x4 x5 x6 x7 v9 v10 v11 w1_low w1_middle w1_high w2_low w2_middle w2_high v6 v7 v8) w3_low w3_middle w3_high w0_low w0_middle w0_high
def w319_L129 (K43 : Int32 → Int32 → Int64 → Int64 → Int64 → Int64 → Int64 → Int64 → Int64 → Int64 → Int64 → Int64 → Int64 → Int64 → Prop) (post : Int64 → Int64 → Int64 → Int64 → Int64 → Int64 → Int64 → Int64 → Int64 → Int64 → Int64 → Int64 → Prop) (x4 : Int32) (x5 : Int32) (x6 : Int32) (x7 : Int32) (y0 : Int32) (y1 : Int32) (w0_low : Int64) (w0_middle : Int64) (w0_high : Int64) (w1_low : Int64) (w1_middle : Int64) (w1_high : Int64) (w2_low : Int64) (w2_middle : Int64) (w2_high : Int64) (w3_low : Int64) (w3_middle : Int64) (w3_high : Int64) : Prop := ∀ z12 : Int32, z12 = y1 + y0 → (¬ x6 = 0 → w319_L160 K43 post z12 x5 x6 x7 w0_low w0_middle w0_high w1_low w1_middle w1_high w2_low w2_middle w2_high w3_low w3_middle w3_high) ∧ (x6 = 0 → (¬ x7 = 0 → w319_L160 K43 post z12 x5 x6 x7 w0_low w0_middle w0_high w1_low w1_middle w1_high w2_low w2_middle w2_high w3_low w3_middle w3_high) ∧ (x7 = 0 → w325_wp (fun r144 v13 v14 v15 v16 v17 v18 => (r144 ≤ 0 → w319_L155 K43 post z12 x5 x6 x7 v13 v14 v15 w1_low w1_middle w1_high w2_low w2_middle w2_high v16 v17 v18) ∧ (¬ r144 ≤ 0 → w327_wp (fun v19 v20 v21 v22 v23 v24 => w319_L155 K43 post z12 x5 x6 x7 v19 v20 v21 w1_low w1_middle w1_high w2_low w2_middle w2_high v22 v23 v24) v13 v14 v15 v16 v17 v18)) w0_low w0_middle w0_high w3_low w3_middle w3_high))
def w319_L128 (K43 : Int32 → Int32 → Int64 → Int64 → Int64 → Int64 → Int64 → Int64 → Int64 → Int64 → Int64 → Int64 → Int64 → Int64 → Prop) (post : Int64 → Int64 → Int64 → Int64 → Int64 → Int64 → Int64 → Int64 → Int64 → Int64 → Int64 → Int64 → Prop) (x4 : Int32) (x5 : Int32) (x6 : Int32) (x7 : Int32) (y0 : Int32) (w0_low : Int64) (w0_middle : Int64) (w0_high : Int64) (w1_low : Int64) (w1_middle : Int64) (w1_high : Int64) (w2_low : Int64) (w2_middle : Int64) (w2_high : Int64) (w3_low : Int64) (w3_middle : Int64) (w3_high : Int64) : Prop := w319_L129 K43 post x4 x5 x6 x7 0 y0 w0_low w0_middle w0_high w1_low w1_middle w1_high w2_low w2_middle w2_high w3_low w3_middle w3_high
def w319_L112 (K43 : Int32 → Int32 → Int64 → Int64 → Int64 → Int64 → Int64 → Int64 → Int64 → Int64 → Int64 → Int64 → Int64 → Int64 → Prop) (post : Int64 → Int64 → Int64 → Int64 → Int64 → Int64 → Int64 → Int64 → Int64 → Int64 → Int64 → Int64 → Prop) (x4 : Int32) (x5 : Int32) (x6 : Int32) (x7 : Int32) (w0_low : Int64) (w0_middle : Int64) (w0_high : Int64) (w1_low : Int64) (w1_middle : Int64) (w1_high : Int64) (w2_low : Int64) (w2_middle : Int64) (w2_high : Int64) (w3_low : Int64) (w3_middle : Int64) (w3_high : Int64) : Prop := (x6 = 0 → w319_L128 K43 post x4 x5 x6 x7 x4 w0_low w0_middle w0_high w1_low w1_middle w1_high w2_low w2_middle w2_high w3_low w3_middle w3_high) ∧ (¬ x6 = 0 → (x7 = 0 → w319_L128 K43 post x4 x5 x6 x7 x4 w0_low w0_middle w0_high w1_low w1_middle w1_high w2_low w2_middle w2_high w3_low w3_middle w3_high) ∧ (¬ x7 = 0 → w319_L129 K43 post x4 x5 x6 x7 1 x4 w0_low w0_middle w0_high w1_low w1_middle w1_high w2_low w2_middle w2_high w3_low w3_middle w3_high))
def w319_L103 (K43 : Int32 → Int32 → Int64 → Int64 → Int64 → Int64 → Int64 → Int64 → Int64 → Int64 → Int64 → Int64 → Int64 → Int64 → Prop) (post : Int64 → Int64 → Int64 → Int64 → Int64 → Int64 → Int64 → Int64 → Int64 → Int64 → Int64 → Int64 → Prop) (x4 : Int32) (x5 : Int32) (x6 : Int32) (x7 : Int32) (w0_low : Int64) (w0_middle : Int64) (w0_high : Int64) (w1_low : Int64) (w1_middle : Int64) (w1_high : Int64) (w2_low : Int64) (w2_middle : Int64) (w2_high : Int64) (w3_low : Int64) (w3_middle : Int64) (w3_high : Int64) : Prop := (x7 = 0 → w319_L112 K43 post x4 x5 x6 x7 w0_low w0_middle w0_high w1_low w1_middle w1_high w2_low w2_middle w2_high w3_low w3_middle w3_high) ∧ (¬ x7 = 0 → w324_wp (fun v25 v26 v27 => w319_L112 K43 post x4 x5 x6 x7 w0_low w0_middle w0_high w1_low w1_middle w1_high w2_low w2_middle w2_high v25 v26 v27) w3_low w3_middle w3_high)
def w319_L92 (K43 : Int32 → Int32 → Int64 → Int64 → Int64 → Int64 → Int64 → Int64 → Int64 → Int64 → Int64 → Int64 → Int64 → Int64 → Prop) (post : Int64 → Int64 → Int64 → Int64 → Int64 → Int64 → Int64 → Int64 → Int64 → Int64 → Int64 → Int64 → Prop) (x4 : Int32) (x5 : Int32) (x6 : Int32) (y0 : Int32) (w0_low : Int64) (w0_middle : Int64) (w0_high : Int64) (w1_low : Int64) (w1_middle : Int64) (w1_high : Int64) (w2_low : Int64) (w2_middle : Int64) (w2_high : Int64) (w3_low : Int64) (w3_middle : Int64) (w3_high : Int64) : Prop := (x6 = 0 → w319_L103 K43 post x4 x5 x6 y0 w0_low w0_middle w0_high w1_low w1_middle w1_high w2_low w2_middle w2_high w3_low w3_middle w3_high) ∧ (¬ x6 = 0 → w324_wp (fun v28 v29 v30 => w319_L103 K43 post x4 x5 x6 y0 v28 v29 v30 w1_low w1_middle w1_high w2_low w2_middle w2_high w3_low w3_middle w3_high) w0_low w0_middle w0_high)
def w319_L74 (K43 : Int32 → Int32 → Int64 → Int64 → Int64 → Int64 → Int64 → Int64 → Int64 → Int64 → Int64 → Int64 → Int64 → Int64 → Prop) (post : Int64 → Int64 → Int64 → Int64 → Int64 → Int64 → Int64 → Int64 → Int64 → Int64 → Int64 → Int64 → Prop) (x4 : Int32) (x5 : Int32) (y0 : Int32) (w0_low : Int64) (w0_middle : Int64) (w0_high : Int64) (w1_low : Int64) (w1_middle : Int64) (w1_high : Int64) (w2_low : Int64) (w2_middle : Int64) (w2_high : Int64) (w3_low : Int64) (w3_middle : Int64) (w3_high : Int64) : Prop := (¬ (lg_cmp (w3_low &&& 1) 0) = 0 → w319_L92 K43 post x4 x5 y0 0 w0_low w0_middle w0_high w1_low w1_middle w1_high w2_low w2_middle w2_high w3_low w3_middle w3_high) ∧ ((lg_cmp (w3_low &&& 1) 0) = 0 → w319_L92 K43 post x4 x5 y0 1 w0_low w0_middle w0_high w1_low w1_middle w1_high w2_low w2_middle w2_high w3_low w3_middle w3_high)
def w319_L43 (post : Int64 → Int64 → Int64 → Int64 → Int64 → Int64 → Int64 → Int64 → Int64 → Int64 → Int64 → Int64 → Prop) : Nat → Int32 → Int32 → Int64 → Int64 → Int64 → Int64 → Int64 → Int64 → Int64 → Int64 → Int64 → Int64 → Int64 → Int64 → Prop
  | 0 => fun _ _ _ _ _ _ _ _ _ _ _ _ _ _ => False
  | k + 1 => fun x4 x5 w0_low w0_middle w0_high w1_low w1_middle w1_high w2_low w2_middle w2_high w3_low w3_middle w3_high => (768 ≤ x5 → w319_L166 post x4 x5 w0_low w0_middle w0_high w1_low w1_middle w1_high w2_low w2_middle w2_high w3_low w3_middle w3_high) ∧ (¬ 768 ≤ x5 → w318_wp (fun r52 v31 v32 v33 => (¬ r52 = 0 → w319_L166 post x4 x5 w0_low w0_middle w0_high w1_low w1_middle w1_high w2_low w2_middle w2_high v31 v32 v33) ∧ (r52 = 0 → (¬ (lg_cmp (w0_low &&& 1) 0) = 0 → w319_L74 (w319_L43 post k) post x4 x5 0 w0_low w0_middle w0_high w1_low w1_middle w1_high w2_low w2_middle w2_high v31 v32 v33) ∧ ((lg_cmp (w0_low &&& 1) 0) = 0 → w319_L74 (w319_L43 post k) post x4 x5 1 w0_low w0_middle w0_high w1_low w1_middle w1_high w2_low w2_middle w2_high v31 v32 v33))) w3_low w3_middle w3_high)
def w319_L27 (post : Int64 → Int64 → Int64 → Int64 → Int64 → Int64 → Int64 → Int64 → Int64 → Int64 → Int64 → Int64 → Prop) (w0_low : Int64) (w0_middle : Int64) (w0_high : Int64) (w1_low : Int64) (w1_middle : Int64) (w1_high : Int64) (w2_low : Int64) (w2_middle : Int64) (w2_high : Int64) (w3_low : Int64) (w3_middle : Int64) (w3_high : Int64) : Prop := w323_wp (fun v34 v35 v36 v37 v38 v39 => w323_wp (fun v40 v41 v42 v43 v44 v45 => ∃ j43, w319_L43 post j43 0 0 v34 v35 v36 v37 v38 v39 v43 v44 v45 v40 v41 v42) w3_low w3_middle w3_high w2_low w2_middle w2_high) w0_low w0_middle w0_high w1_low w1_middle w1_high
def w319_wp (post : Int64 → Int64 → Int64 → Int64 → Int64 → Int64 → Int64 → Int64 → Int64 → Int64 → Int64 → Int64 → Prop) (w0_low : Int64) (w0_middle : Int64) (w0_high : Int64) (w1_low : Int64) (w1_middle : Int64) (w1_high : Int64) (w2_low : Int64) (w2_middle : Int64) (w2_high : Int64) (w3_low : Int64) (w3_middle : Int64) (w3_high : Int64) : Prop := w320_wp (fun r1 v46 v47 v48 => (r1 = 0 → w319_L27 post w0_low w0_middle w0_high v46 v47 v48 w2_low w2_middle w2_high w3_low w3_middle w3_high) ∧ (¬ r1 = 0 → w320_wp (fun r8 v49 v50 v51 => (r8 = 0 → w319_L27 post w0_low w0_middle w0_high v46 v47 v48 v49 v50 v51 w3_low w3_middle w3_high) ∧ (¬ r8 = 0 → w321_wp (fun r16 v52 v53 v54 => w321_wp (fun r20 v55 v56 v57 => w322_wp (fun v58 v59 v60 => post v58 v59 v60 v52 v53 v54 v55 v56 v57 w3_low w3_middle w3_high) r16 r20 w0_low w0_middle w0_high) v49 v50 v51) v46 v47 v48)) w2_low w2_middle w2_high)) w1_low w1_middle w1_high
set_option maxHeartbeats 8000000 in
set_option maxRecDepth 100000 in
theorem w319_met (l : Launch) (dC : Nat → ClassId) (dI : Nat → Nat → Nat) (sz : Nat) (h0 : Nat) (h1 : Nat) (h2 : Nat) (h3 : Nat) (w0_low : Int64) (w0_middle : Int64) (w0_high : Int64) (w1_low : Int64) (w1_middle : Int64) (w1_high : Int64) (w2_low : Int64) (w2_middle : Int64) (w2_high : Int64) (w3_low : Int64) (w3_middle : Int64) (w3_high : Int64) (post : Int64 → Int64 → Int64 → Int64 → Int64 → Int64 → Int64 → Int64 → Int64 → Int64 → Int64 → Int64 → Prop) (hw : w319_wp post w0_low w0_middle w0_high w1_low w1_middle w1_high w2_low w2_middle w2_high w3_low w3_middle w3_high) : Met l px_y319 px_s319 ({ frames := 2, cells := 0, slots := 0, locals := 62 }) (va_Pc [.ref h0, .ref h1, .ref h2, .ref h3] (fun U => U.heap.size = sz ∧ va_P (dC, dI) vwCl [(h0, .inr (3, [.long w0_low, .long w0_middle, .long w0_high])), (h1, .inr (3, [.long w1_low, .long w1_middle, .long w1_high])), (h2, .inr (3, [.long w2_low, .long w2_middle, .long w2_high])), (h3, .inr (3, [.long w3_low, .long w3_middle, .long w3_high]))] U.heap ∧ va_K (dC, dI) vwCl [] U ∧ va_D (fun _ => True) [(h0, .inr (3, [.long w0_low, .long w0_middle, .long w0_high])), (h1, .inr (3, [.long w1_low, .long w1_middle, .long w1_high])), (h2, .inr (3, [.long w2_low, .long w2_middle, .long w2_high])), (h3, .inr (3, [.long w3_low, .long w3_middle, .long w3_high]))] ∧ px_N U)) (va_Qv (fun (u : Int64 × Int64 × Int64 × Int64 × Int64 × Int64 × Int64 × Int64 × Int64 × Int64 × Int64 × Int64) => post u.1 u.2.1 u.2.2.1 u.2.2.2.1 u.2.2.2.2.1 u.2.2.2.2.2.1 u.2.2.2.2.2.2.1 u.2.2.2.2.2.2.2.1 u.2.2.2.2.2.2.2.2.1 u.2.2.2.2.2.2.2.2.2.1 u.2.2.2.2.2.2.2.2.2.2.1 u.2.2.2.2.2.2.2.2.2.2.2) (fun (u : Int64 × Int64 × Int64 × Int64 × Int64 × Int64 × Int64 × Int64 × Int64 × Int64 × Int64 × Int64) (t : State) => va_P (dC, dI) vwCl [(h0, .inr (3, [.long u.1, .long u.2.1, .long u.2.2.1])), (h1, .inr (3, [.long u.2.2.2.1, .long u.2.2.2.2.1, .long u.2.2.2.2.2.1])), (h2, .inr (3, [.long u.2.2.2.2.2.2.1, .long u.2.2.2.2.2.2.2.1, .long u.2.2.2.2.2.2.2.2.1])), (h3, .inr (3, [.long u.2.2.2.2.2.2.2.2.2.1, .long u.2.2.2.2.2.2.2.2.2.2.1, .long u.2.2.2.2.2.2.2.2.2.2.2]))] t.heap ∧ va_K (dC, dI) vwCl [] t ∧ va_D (va_A [(h0, .inr (3, [.long w0_low, .long w0_middle, .long w0_high])), (h1, .inr (3, [.long w1_low, .long w1_middle, .long w1_high])), (h2, .inr (3, [.long w2_low, .long w2_middle, .long w2_high])), (h3, .inr (3, [.long w3_low, .long w3_middle, .long w3_high]))] sz) [(h0, .inr (3, [.long u.1, .long u.2.1, .long u.2.2.1])), (h1, .inr (3, [.long u.2.2.2.1, .long u.2.2.2.2.1, .long u.2.2.2.2.2.1])), (h2, .inr (3, [.long u.2.2.2.2.2.2.1, .long u.2.2.2.2.2.2.2.1, .long u.2.2.2.2.2.2.2.2.1])), (h3, .inr (3, [.long u.2.2.2.2.2.2.2.2.2.1, .long u.2.2.2.2.2.2.2.2.2.2.1, .long u.2.2.2.2.2.2.2.2.2.2.2]))]) (va_A [(h0, .inr (3, [.long w0_low, .long w0_middle, .long w0_high])), (h1, .inr (3, [.long w1_low, .long w1_middle, .long w1_high])), (h2, .inr (3, [.long w2_low, .long w2_middle, .long w2_high])), (h3, .inr (3, [.long w3_low, .long w3_middle, .long w3_high]))] sz)) 0 0 (va_A [(h0, .inr (3, [.long w0_low, .long w0_middle, .long w0_high])), (h1, .inr (3, [.long w1_low, .long w1_middle, .long w1_high])), (h2, .inr (3, [.long w2_low, .long w2_middle, .long w2_high])), (h3, .inr (3, [.long w3_low, .long w3_middle, .long w3_high]))] sz) := by
  refine Met.ofW (cc := prog_12_method_7_code) (maxL := 8) (ret := none) (by decide) rfl ?_
  intro p e s m args below meth c s₁ B hml hv
  obtain ⟨rfl, hsz, hP, hK, hD0, hN⟩ := hv
  have hx := B.exec
  have hb := B.bytes
  have hr := B.returns
  have htw : ∀ w ∈ px_all, w.before _ s = true := fun w h => atoms_spec (ws := px_s319) B.pre w (List.mem_cons_of_mem _ h)
  have hown : s.vm.findClass "MatroidDesk$Wide" = some m.cls := findClass_of_methodNamed B.named
  have hlocks := B.notSynchronized
  subst hsz
  have hD := hD0.self (sz := s.heap.size)
  generalize hAe : va_A [(h0, .inr (3, [.long w0_low, .long w0_middle, .long w0_high])), (h1, .inr (3, [.long w1_low, .long w1_middle, .long w1_high])), (h2, .inr (3, [.long w2_low, .long w2_middle, .long w2_high])), (h3, .inr (3, [.long w3_low, .long w3_middle, .long w3_high]))] s.heap.size = A at hD ⊢
  have hA : ∀ q : Nat, s.heap.size ≤ q → A q := fun q h => by rw [← hAe]; exact Or.inr h
  have hS : va_S A s.heap s.heap [] := va_S.rf
  have hP : va_P (dC, dI) vwCl [(h0, .inr (3, [.long w0_low, .long w0_middle, .long w0_high])), (h1, .inr (3, [.long w1_low, .long w1_middle, .long w1_high])), (h2, .inr (3, [.long w2_low, .long w2_middle, .long w2_high])), (h3, .inr (3, [.long w3_low, .long w3_middle, .long w3_high]))] s.heap := hP
  have hl := lv_entry ([.ref h0, .ref h1, .ref h2, .ref h3]) (n := 8) (Nat.le_of_ble_eq_true rfl)
  rw [lg_entry_eq]
  generalize (lg_sl ([.ref h0, .ref h1, .ref h2, .ref h3]) ++ List.replicate (8 - (lg_sl ([.ref h0, .ref h1, .ref h2, .ref h3])).length) Slot.unset).toArray = ls at hl ⊢
  have hl : lv_has ls 8 [(0, .ref h0), (1, .ref h1), (2, .ref h2), (3, .ref h3)] := hl
  generalize hQ : MQ _ _ _ _ _ _ _ = Q
  have S169 : ∀ (k169 : Nat) (x4 : Int32) (x5 : Int32) (w0_low : Int64) (w0_middle : Int64) (w0_high : Int64) (w1_low : Int64) (w1_middle : Int64) (w1_high : Int64) (w2_low : Int64) (w2_middle : Int64) (w2_high : Int64) (w3_low : Int64) (w3_middle : Int64) (w3_high : Int64) (H : Heap) (locs : List Loc) (ls : Array Slot), va_P (dC, dI) vwCl [(h0, .inr (3, [.long w0_low, .long w0_middle, .long w0_high])), (h1, .inr (3, [.long w1_low, .long w1_middle, .long w1_high])), (h2, .inr (3, [.long w2_low, .long w2_middle, .long w2_high])), (h3, .inr (3, [.long w3_low, .long w3_middle, .long w3_high]))] H → va_D A [(h0, .inr (3, [.long w0_low, .long w0_middle, .long w0_high])), (h1, .inr (3, [.long w1_low, .long w1_middle, .long w1_high])), (h2, .inr (3, [.long w2_low, .long w2_middle, .long w2_high])), (h3, .inr (3, [.long w3_low, .long w3_middle, .long w3_high]))] → va_S A s.heap H locs → lv_has ls 8 [(0, .ref h0), (1, .ref h1), (2, .ref h2), (3, .ref h3), (4, .int x4), (5, .int x5)] → w319_L169 post k169 x4 x5 w0_low w0_middle w0_high w1_low w1_middle w1_high w2_low w2_middle w2_high w3_low w3_middle w3_high → W p l e (headSpec px_s319 ({ frames := 2, cells := 0, slots := 0, locals := 62 })).room s m ([.ref h0, .ref h1, .ref h2, .ref h3]).toArray below meth c H locs 0 0 Q (F0 m 169 ls []) := by
    intro k169
    induction k169 with
    | zero => intro x4 x5 w0_low w0_middle w0_high w1_low w1_middle w1_high w2_low w2_middle w2_high w3_low w3_middle w3_high H locs ls hP hD hS hl hw; exact False.elim hw
    | succ k169 ih169 =>
      intro x4 x5 w0_low w0_middle w0_high w1_low w1_middle w1_high w2_low w2_middle w2_high w3_low w3_middle w3_high H locs ls hP hD hS hl hw
      unfold w319_L169 at hw
      refine lv_iload hx hb px_d319_169 (lv_at hl 5 rfl) ?_
      refine lv_iload hx hb px_d319_171 (lv_at hl 4 rfl) ?_
      refine lv_icmp_ge (tgt := 187) hx hb px_d319_173 (by decide) (fun c173 => ?_) (fun c173 => ?_)
      · have hw := hw.1 c173
        rw [← hQ]
        exact W.vret hx hb hr (fun t ht hW => ⟨⟨(w0_low, w0_middle, w0_high, w1_low, w1_middle, w1_high, w2_low, w2_middle, w2_high, w3_low, w3_middle, w3_high), rfl, hw, by rw [ht]; exact hP, va_K.moved hW.alike hK, hD⟩, hS.F ht⟩) hS.2.2 px_d319_187
      · have hw := hw.2 c173
        refine lv_aload_n hx hb px_d319_176 rfl (lv_at hl 0 rfl) ?_
        refine lv_iconst (v := 0) hx hb px_d319_177 (by decide) ?_
        have hPc := hP.sub (ws' := [(h0, .inr (3, [.long w0_low, .long w0_middle, .long w0_high]))]) [0] rfl
        have hDc := hD.sub (ws' := [(h0, .inr (3, [.long w0_low, .long w0_middle, .long w0_high]))]) [0] (by decide) rfl
        have hKc := hK.sub (tys' := []) [] rfl
        have hFc := va_free (wc := [(h0, .inr (3, [.long w0_low, .long w0_middle, .long w0_high]))]) hD hS hA [0] rfl
        refine va_callv (va_runV (As := [.int 0]) (rest := []) ⟨hx, hb, hml, hown, htw⟩ (w329_met l dC dI H.size h0 0 w0_low w0_middle w0_high _ hw) (cwV 1 htw (px_gv px_w1611 px_w1641 px_w1642 px_w41 px_g329) rfl rfl rfl (by decide +kernel) ⟨Nat.le_of_ble_eq_true rfl, Nat.le_of_ble_eq_true rfl⟩) ⟨fun a U g mk q => by obtain ⟨q0, q1, qP, qK, qD, qN⟩ := q; exact ⟨q0, q1, qP, va_K.moved (u := U) (U := U.calling g mk a) (Vm.Alike.refl U.vm) qK, qD, qN.same rfl⟩, va_recv hK hP (ci := 3) (q0 := 0) rfl rfl, fun U hU hW => ⟨rfl, by rw [hU], by rw [hU]; exact hPc, va_K.moved hW.alike hKc, hDc.weaken (fun _ _ _ _ => trivial), hN.warm hW⟩⟩ rfl rfl hl.1 rfl (lv_room (Nat.le_of_ble_eq_true rfl)) px_d319_178 ⟨(Nat.le_of_ble_eq_true rfl), (Nat.le_of_ble_eq_true rfl)⟩) hS (fun q _ h => hFc q h) hFc (fun u t H1 locs ht hvm hw hB hz1 hk1 hS => ?_)
        obtain ⟨v1, v2, v3⟩ := u
        obtain ⟨hP1, hK1, hD1⟩ := hB
        rw [ht] at hP1
        have hK1 := va_K.moved hvm.symm hK1
        obtain ⟨hP, hD⟩ := va_join (wr := [(h1, .inr (3, [.long w1_low, .long w1_middle, .long w1_high])), (h2, .inr (3, [.long w2_low, .long w2_middle, .long w2_high])), (h3, .inr (3, [.long w3_low, .long w3_middle, .long w3_high]))]) (w1 := [(h0, .inr (3, [.long v1, .long v2, .long v3]))]) hP hD [0] [1, 2, 3] rfl rfl (by decide) (by decide) hk1 hFc hP1 hD1
        generalize H1 = H at hP hS ⊢
        have hP : va_P (dC, dI) vwCl [(h1, .inr (3, [.long w1_low, .long w1_middle, .long w1_high])), (h2, .inr (3, [.long w2_low, .long w2_middle, .long w2_high])), (h3, .inr (3, [.long w3_low, .long w3_middle, .long w3_high])), (h0, .inr (3, [.long v1, .long v2, .long v3]))] H := hP
        have hD : va_D A [(h1, .inr (3, [.long w1_low, .long w1_middle, .long w1_high])), (h2, .inr (3, [.long w2_low, .long w2_middle, .long w2_high])), (h3, .inr (3, [.long w3_low, .long w3_middle, .long w3_high])), (h0, .inr (3, [.long v1, .long v2, .long v3]))] := hD
        have hP := hP.sub (ws' := [(h0, .inr (3, [.long v1, .long v2, .long v3])), (h1, .inr (3, [.long w1_low, .long w1_middle, .long w1_high])), (h2, .inr (3, [.long w2_low, .long w2_middle, .long w2_high])), (h3, .inr (3, [.long w3_low, .long w3_middle, .long w3_high]))]) [3, 0, 1, 2] rfl
        have hD := hD.sub (ws' := [(h0, .inr (3, [.long v1, .long v2, .long v3])), (h1, .inr (3, [.long w1_low, .long w1_middle, .long w1_high])), (h2, .inr (3, [.long w2_low, .long w2_middle, .long w2_high])), (h3, .inr (3, [.long w3_low, .long w3_middle, .long w3_high]))]) [3, 0, 1, 2] (by decide) rfl
        obtain ⟨z4, ez4⟩ : ∃ y : Int32, y = x5 + 1 := ⟨_, rfl⟩
        have hw := hw z4 ez4
        refine lv_iinc (v := z4) (lv' := [(5, .int z4), (0, .ref h0), (1, .ref h1), (2, .ref h2), (3, .ref h3), (4, .int x4)]) hx hb px_d319_181 hl (k := 5) rfl (by rw [ez4]; rfl) (by decide) rfl (fun ls hl => ?_)
        refine lv_goto (tgt := 169) hx hb px_d319_184 (by decide) ?_
        exact ih169 x4 z4 v1 v2 v3 w1_low w1_middle w1_high w2_low w2_middle w2_high w3_low w3_middle w3_high H locs ls hP hD hS (lv_sub hl [1, 2, 3, 4, 5, 0] rfl) hw
  have S166 : ∀ (x4 : Int32) (x5 : Int32) (w0_low : Int64) (w0_middle : Int64) (w0_high : Int64) (w1_low : Int64) (w1_middle : Int64) (w1_high : Int64) (w2_low : Int64) (w2_middle : Int64) (w2_high : Int64) (w3_low : Int64) (w3_middle : Int64) (w3_high : Int64) (H : Heap) (locs : List Loc) (ls : Array Slot), va_P (dC, dI) vwCl [(h0, .inr (3, [.long w0_low, .long w0_middle, .long w0_high])), (h1, .inr (3, [.long w1_low, .long w1_middle, .long w1_high])), (h2, .inr (3, [.long w2_low, .long w2_middle, .long w2_high])), (h3, .inr (3, [.long w3_low, .long w3_middle, .long w3_high]))] H → va_D A [(h0, .inr (3, [.long w0_low, .long w0_middle, .long w0_high])), (h1, .inr (3, [.long w1_low, .long w1_middle, .long w1_high])), (h2, .inr (3, [.long w2_low, .long w2_middle, .long w2_high])), (h3, .inr (3, [.long w3_low, .long w3_middle, .long w3_high]))] → va_S A s.heap H locs → lv_has ls 8 [(0, .ref h0), (1, .ref h1), (2, .ref h2), (3, .ref h3), (4, .int x4), (5, .int x5)] → w319_L166 post x4 x5 w0_low w0_middle w0_high w1_low w1_middle w1_high w2_low w2_middle w2_high w3_low w3_middle w3_high → W p l e (headSpec px_s319 ({ frames := 2, cells := 0, slots := 0, locals := 62 })).room s m ([.ref h0, .ref h1, .ref h2, .ref h3]).toArray below meth c H locs 0 0 Q (F0 m 166 ls []) := by
    intro x4 x5 w0_low w0_middle w0_high w1_low w1_middle w1_high w2_low w2_middle w2_high w3_low w3_middle w3_high H locs ls hP hD hS hl hw
    unfold w319_L166 at hw
    refine lv_iconst (v := 0) hx hb px_d319_166 (by decide) ?_
    refine lv_istore (lv' := [(5, .int 0), (0, .ref h0), (1, .ref h1), (2, .ref h2), (3, .ref h3), (4, .int x4)]) hx hb px_d319_167 hl (by decide) rfl (fun ls hl => ?_)
    obtain ⟨k9, hw⟩ := hw
    exact S169 k9 x4 0 w0_low w0_middle w0_high w1_low w1_middle w1_high w2_low w2_middle w2_high w3_low w3_middle w3_high H locs ls hP hD hS (lv_sub hl [1, 2, 3, 4, 5, 0] rfl) hw
  have S43 : ∀ (k43 : Nat) (x4 : Int32) (x5 : Int32) (w0_low : Int64) (w0_middle : Int64) (w0_high : Int64) (w1_low : Int64) (w1_middle : Int64) (w1_high : Int64) (w2_low : Int64) (w2_middle : Int64) (w2_high : Int64) (w3_low : Int64) (w3_middle : Int64) (w3_high : Int64) (H : Heap) (locs : List Loc) (ls : Array Slot), va_P (dC, dI) vwCl [(h0, .inr (3, [.long w0_low, .long w0_middle, .long w0_high])), (h1, .inr (3, [.long w1_low, .long w1_middle, .long w1_high])), (h2, .inr (3, [.long w2_low, .long w2_middle, .long w2_high])), (h3, .inr (3, [.long w3_low, .long w3_middle, .long w3_high]))] H → va_D A [(h0, .inr (3, [.long w0_low, .long w0_middle, .long w0_high])), (h1, .inr (3, [.long w1_low, .long w1_middle, .long w1_high])), (h2, .inr (3, [.long w2_low, .long w2_middle, .long w2_high])), (h3, .inr (3, [.long w3_low, .long w3_middle, .long w3_high]))] → va_S A s.heap H locs → lv_has ls 8 [(0, .ref h0), (1, .ref h1), (2, .ref h2), (3, .ref h3), (4, .int x4), (5, .int x5)] → w319_L43 post k43 x4 x5 w0_low w0_middle w0_high w1_low w1_middle w1_high w2_low w2_middle w2_high w3_low w3_middle w3_high → W p l e (headSpec px_s319 ({ frames := 2, cells := 0, slots := 0, locals := 62 })).room s m ([.ref h0, .ref h1, .ref h2, .ref h3]).toArray below meth c H locs 0 0 Q (F0 m 43 ls []) := by
    intro k43
    induction k43 with
    | zero => intro x4 x5 w0_low w0_middle w0_high w1_low w1_middle w1_high w2_low w2_middle w2_high w3_low w3_middle w3_high H locs ls hP hD hS hl hw; exact False.elim hw
    | succ k43 ih43 =>
      have S160 : ∀ (x4 : Int32) (x5 : Int32) (x6 : Int32) (x7 : Int32) (w0_low : Int64) (w0_middle : Int64) (w0_high : Int64) (w1_low : Int64) (w1_middle : Int64) (w1_high : Int64) (w2_low : Int64) (w2_middle : Int64) (w2_high : Int64) (w3_low : Int64) (w3_middle : Int64) (w3_high : Int64) (H : Heap) (locs : List Loc) (ls : Array Slot), va_P (dC, dI) vwCl [(h0, .inr (3, [.long w0_low, .long w0_middle, .long w0_high])), (h1, .inr (3, [.long w1_low, .long w1_middle, .long w1_high])), (h2, .inr (3, [.long w2_low, .long w2_middle, .long w2_high])), (h3, .inr (3, [.long w3_low, .long w3_middle, .long w3_high]))] H → va_D A [(h0, .inr (3, [.long w0_low, .long w0_middle, .long w0_high])), (h1, .inr (3, [.long w1_low, .long w1_middle, .long w1_high])), (h2, .inr (3, [.long w2_low, .long w2_middle, .long w2_high])), (h3, .inr (3, [.long w3_low, .long w3_middle, .long w3_high]))] → va_S A s.heap H locs → lv_has ls 8 [(0, .ref h0), (1, .ref h1), (2, .ref h2), (3, .ref h3), (4, .int x4), (5, .int x5), (6, .int x6), (7, .int x7)] → w319_L160 (w319_L43 post k43) post x4 x5 x6 x7 w0_low w0_middle w0_high w1_low w1_middle w1_high w2_low w2_middle w2_high w3_low w3_middle w3_high → W p l e (headSpec px_s319 ({ frames := 2, cells := 0, slots := 0, locals := 62 })).room s m ([.ref h0, .ref h1, .ref h2, .ref h3]).toArray below meth c H locs 0 0 Q (F0 m 160 ls []) := by
        intro x4 x5 x6 x7 w0_low w0_middle w0_high w1_low w1_middle w1_high w2_low w2_middle w2_high w3_low w3_middle w3_high H locs ls hP hD hS hl hw
        unfold w319_L160 at hw
        obtain ⟨z5, ez5⟩ : ∃ y : Int32, y = x5 + 1 := ⟨_, rfl⟩
        have hw := hw z5 ez5
        refine lv_iinc (v := z5) (lv' := [(5, .int z5), (0, .ref h0), (1, .ref h1), (2, .ref h2), (3, .ref h3), (4, .int x4), (6, .int x6), (7, .int x7)]) hx hb px_d319_160 hl (k := 5) rfl (by rw [ez5]; rfl) (by decide) rfl (fun ls hl => ?_)
        refine lv_goto (tgt := 43) hx hb px_d319_163 (by decide) ?_
        exact ih43 x4 z5 w0_low w0_middle w0_high w1_low w1_middle w1_high w2_low w2_middle w2_high w3_low w3_middle w3_high H locs ls hP hD hS (lv_sub hl [1, 2, 3, 4, 5, 0] rfl) hw
      have S155 : ∀ (x4 : Int32) (x5 : Int32) (x6 : Int32) (x7 : Int32) (w0_low : Int64) (w0_middle : Int64) (w0_high : Int64) (w1_low : Int64) (w1_middle : Int64) (w1_high : Int64) (w2_low : Int64) (w2_middle : Int64) (w2_high : Int64) (w3_low : Int64) (w3_middle : Int64) (w3_high : Int64) (H : Heap) (locs : List Loc) (ls : Array Slot), va_P (dC, dI) vwCl [(h0, .inr (3, [.long w0_low, .long w0_middle, .long w0_high])), (h1, .inr (3, [.long w1_low, .long w1_middle, .long w1_high])), (h2, .inr (3, [.long w2_low, .long w2_middle, .long w2_high])), (h3, .inr (3, [.long w3_low, .long w3_middle, .long w3_high]))] H → va_D A [(h0, .inr (3, [.long w0_low, .long w0_middle, .long w0_high])), (h1, .inr (3, [.long w1_low, .long w1_middle, .long w1_high])), (h2, .inr (3, [.long w2_low, .long w2_middle, .long w2_high])), (h3, .inr (3, [.long w3_low, .long w3_middle, .long w3_high]))] → va_S A s.heap H locs → lv_has ls 8 [(0, .ref h0), (1, .ref h1), (2, .ref h2), (3, .ref h3), (4, .int x4), (5, .int x5), (6, .int x6), (7, .int x7)] → w319_L155 (w319_L43 post k43) post x4 x5 x6 x7 w0_low w0_middle w0_high w1_low w1_middle w1_high w2_low w2_middle w2_high w3_low w3_middle w3_high → W p l e (headSpec px_s319 ({ frames := 2, cells := 0, slots := 0, locals := 62 })).room s m ([.ref h0, .ref h1, .ref h2, .ref h3]).toArray below meth c H locs 0 0 Q (F0 m 155 ls []) := by
        intro x4 x5 x6 x7 w0_low w0_middle w0_high w1_low w1_middle w1_high w2_low w2_middle w2_high w3_low w3_middle w3_high H locs ls hP hD hS hl hw
        unfold w319_L155 at hw
        refine lv_aload_n hx hb px_d319_155 rfl (lv_at hl 3 rfl) ?_
        refine lv_aload_n hx hb px_d319_156 rfl (lv_at hl 0 rfl) ?_
        have hPc := hP.sub (ws' := [(h3, .inr (3, [.long w3_low, .long w3_middle, .long w3_high])), (h0, .inr (3, [.long w0_low, .long w0_middle, .long w0_high]))]) [3, 0] rfl
        have hDc := hD.sub (ws' := [(h3, .inr (3, [.long w3_low, .long w3_middle, .long w3_high])), (h0, .inr (3, [.long w0_low, .long w0_middle, .long w0_high]))]) [3, 0] (by decide) rfl
        have hKc := hK.sub (tys' := []) [] rfl
        have hFc := va_free (wc := [(h3, .inr (3, [.long w3_low, .long w3_middle, .long w3_high])), (h0, .inr (3, [.long w0_low, .long w0_middle, .long w0_high]))]) hD hS hA [3, 0] rfl
        refine va_callv (va_runV (As := [.ref h0]) (rest := []) ⟨hx, hb, hml, hown, htw⟩ (w328_met l dC dI H.size h3 h0 w3_low w3_middle w3_high w0_low w0_middle w0_high _ hw) (cwV 1 htw (px_gv px_w1610 px_w1638 px_w1639 px_w41 px_g328) rfl rfl rfl (by decide +kernel) ⟨Nat.le_of_ble_eq_true rfl, Nat.le_of_ble_eq_true rfl⟩) ⟨fun a U g mk q => by obtain ⟨q0, q1, qP, qK, qD, qN⟩ := q; exact ⟨q0, q1, qP, va_K.moved (u := U) (U := U.calling g mk a) (Vm.Alike.refl U.vm) qK, qD, qN.same rfl⟩, va_recv hK hP (ci := 3) (q0 := 3) rfl rfl, fun U hU hW => ⟨rfl, by rw [hU], by rw [hU]; exact hPc, va_K.moved hW.alike hKc, hDc.weaken (fun _ _ _ _ => trivial), hN.warm hW⟩⟩ rfl rfl hl.1 rfl (lv_room (Nat.le_of_ble_eq_true rfl)) px_d319_157 ⟨(Nat.le_of_ble_eq_true rfl), (Nat.le_of_ble_eq_true rfl)⟩) hS (fun q _ h => hFc q h) hFc (fun u t H1 locs ht hvm hw hB hz1 hk1 hS => ?_)
        obtain ⟨v6, v7, v8, v9, v10, v11⟩ := u
        obtain ⟨hP1, hK1, hD1⟩ := hB
        rw [ht] at hP1
        have hK1 := va_K.moved hvm.symm hK1
        obtain ⟨hP, hD⟩ := va_join (wr := [(h1, .inr (3, [.long w1_low, .long w1_middle, .long w1_high])), (h2, .inr (3, [.long w2_low, .long w2_middle, .long w2_high]))]) (w1 := [(h3, .inr (3, [.long v6, .long v7, .long v8])), (h0, .inr (3, [.long v9, .long v10, .long v11]))]) hP hD [3, 0] [1, 2] rfl rfl (by decide) (by decide) hk1 hFc hP1 hD1
        generalize H1 = H at hP hS ⊢
        have hP : va_P (dC, dI) vwCl [(h1, .inr (3, [.long w1_low, .long w1_middle, .long w1_high])), (h2, .inr (3, [.long w2_low, .long w2_middle, .long w2_high])), (h3, .inr (3, [.long v6, .long v7, .long v8])), (h0, .inr (3, [.long v9, .long v10, .long v11]))] H := hP
        have hD : va_D A [(h1, .inr (3, [.long w1_low, .long w1_middle, .long w1_high])), (h2, .inr (3, [.long w2_low, .long w2_middle, .long w2_high])), (h3, .inr (3, [.long v6, .long v7, .long v8])), (h0, .inr (3, [.long v9, .long v10, .long v11]))] := hD
        have hP := hP.sub (ws' := [(h0, .inr (3, [.long v9, .long v10, .long v11])), (h1, .inr (3, [.long w1_low, .long w1_middle, .long w1_high])), (h2, .inr (3, [.long w2_low, .long w2_middle, .long w2_high])), (h3, .inr (3, [.long v6, .long v7, .long v8]))]) [3, 0, 1, 2] rfl
        have hD := hD.sub (ws' := [(h0, .inr (3, [.long v9, .long v10, .long v11])), (h1, .inr (3, [.long w1_low, .long w1_middle, .long w1_high])), (h2, .inr (3, [.long w2_low, .long w2_middle, .long w2_high])), (h3, .inr (3, [.long v6, .long v7, .long v8]))]) [3, 0, 1, 2] (by decide) rfl
        exact S160 x4 x5 x6 x7 v9 v10 v11 w1_low w1_middle w1_high w2_low w2_middle w2_high v6 v7 v8 H locs ls hP hD hS (lv_sub hl [0, 1, 2, 3, 4, 5, 6, 7] rfl) hw
      have S129 : ∀ (x4 : Int32) (x5 : Int32) (x6 : Int32) (x7 : Int32) (y0 : Int32) (y1 : Int32) (w0_low : Int64) (w0_middle : Int64) (w0_high : Int64) (w1_low : Int64) (w1_middle : Int64) (w1_high : Int64) (w2_low : Int64) (w2_middle : Int64) (w2_high : Int64) (w3_low : Int64) (w3_middle : Int64) (w3_high : Int64) (H : Heap) (locs : List Loc) (ls : Array Slot), va_P (dC, dI) vwCl [(h0, .inr (3, [.long w0_low, .long w0_middle, .long w0_high])), (h1, .inr (3, [.long w1_low, .long w1_middle, .long w1_high])), (h2, .inr (3, [.long w2_low, .long w2_middle, .long w2_high])), (h3, .inr (3, [.long w3_low, .long w3_middle, .long w3_high]))] H → va_D A [(h0, .inr (3, [.long w0_low, .long w0_middle, .long w0_high])), (h1, .inr (3, [.long w1_low, .long w1_middle, .long w1_high])), (h2, .inr (3, [.long w2_low, .long w2_middle, .long w2_high])), (h3, .inr (3, [.long w3_low, .long w3_middle, .long w3_high]))] → va_S A s.heap H locs → lv_has ls 8 [(0, .ref h0), (1, .ref h1), (2, .ref h2), (3, .ref h3), (4, .int x4), (5, .int x5), (6, .int x6), (7, .int x7)] → w319_L129 (w319_L43 post k43) post x4 x5 x6 x7 y0 y1 w0_low w0_middle w0_high w1_low w1_middle w1_high w2_low w2_middle w2_high w3_low w3_middle w3_high → W p l e (headSpec px_s319 ({ frames := 2, cells := 0, slots := 0, locals := 62 })).room s m ([.ref h0, .ref h1, .ref h2, .ref h3]).toArray below meth c H locs 0 0 Q (F0 m 129 ls [.int y0, .int y1]) := by
        intro x4 x5 x6 x7 y0 y1 w0_low w0_middle w0_high w1_low w1_middle w1_high w2_low w2_middle w2_high w3_low w3_middle w3_high H locs ls hP hD hS hl hw
        unfold w319_L129 at hw
        refine lv_iadd hx hb px_d319_129 ?_
        refine lv_topi (fun z12 ez12 => ?_)
        have hw := hw z12 ez12
        refine lv_istore (lv' := [(4, .int z12), (0, .ref h0), (1, .ref h1), (2, .ref h2), (3, .ref h3), (5, .int x5), (6, .int x6), (7, .int x7)]) hx hb px_d319_130 hl (by decide) rfl (fun ls hl => ?_)
        refine lv_iload hx hb px_d319_132 (lv_at hl 6 rfl) ?_
        refine lv_if_ne (tgt := 160) hx hb px_d319_134 (by decide) (fun c134 => ?_) (fun c134 => ?_)
        · have hw := hw.1 c134
          exact S160 z12 x5 x6 x7 w0_low w0_middle w0_high w1_low w1_middle w1_high w2_low w2_middle w2_high w3_low w3_middle w3_high H locs ls hP hD hS (lv_sub hl [1, 2, 3, 4, 0, 5, 6, 7] rfl) hw
        · have hw := hw.2 c134
          refine lv_iload hx hb px_d319_137 (lv_at hl 7 rfl) ?_
          refine lv_if_ne (tgt := 160) hx hb px_d319_139 (by decide) (fun c139 => ?_) (fun c139 => ?_)
          · have hw := hw.1 c139
            exact S160 z12 x5 x6 x7 w0_low w0_middle w0_high w1_low w1_middle w1_high w2_low w2_middle w2_high w3_low w3_middle w3_high H locs ls hP hD hS (lv_sub hl [1, 2, 3, 4, 0, 5, 6, 7] rfl) hw
          · have hw := hw.2 c139
            refine lv_aload_n hx hb px_d319_142 rfl (lv_at hl 1 rfl) ?_
            refine lv_aload_n hx hb px_d319_143 rfl (lv_at hl 4 rfl) ?_
            have hPc := hP.sub (ws' := [(h0, .inr (3, [.long w0_low, .long w0_middle, .long w0_high])), (h3, .inr (3, [.long w3_low, .long w3_middle, .long w3_high]))]) [0, 3] rfl
            have hDc := hD.sub (ws' := [(h0, .inr (3, [.long w0_low, .long w0_middle, .long w0_high])), (h3, .inr (3, [.long w3_low, .long w3_middle, .long w3_high]))]) [0, 3] (by decide) rfl
            have hKc := hK.sub (tys' := []) [] rfl
            have hFc := va_free (wc := [(h0, .inr (3, [.long w0_low, .long w0_middle, .long w0_high])), (h3, .inr (3, [.long w3_low, .long w3_middle, .long w3_high]))]) hD hS hA [0, 3] rfl
            refine va_calli (va_runV (As := [.ref h3]) (rest := []) ⟨hx, hb, hml, hown, htw⟩ (w325_met l dC dI H.size h0 h3 w0_low w0_middle w0_high w3_low w3_middle w3_high _ hw) (cwV 1 htw (px_gv px_w1608 px_w1629 px_w1630 px_w41 px_g325) rfl rfl rfl (by decide +kernel) ⟨Nat.le_of_ble_eq_true rfl, Nat.le_of_ble_eq_true rfl⟩) ⟨fun a U g mk q => by obtain ⟨q0, q1, qP, qK, qD, qN⟩ := q; exact ⟨q0, q1, qP, va_K.moved (u := U) (U := U.calling g mk a) (Vm.Alike.refl U.vm) qK, qD, qN.same rfl⟩, va_recv hK hP (ci := 3) (q0 := 0) rfl rfl, fun U hU hW => ⟨rfl, by rw [hU], by rw [hU]; exact hPc, va_K.moved hW.alike hKc, hDc.weaken (fun _ _ _ _ => trivial), hN.warm hW⟩⟩ rfl rfl hl.1 rfl (lv_room (Nat.le_of_ble_eq_true rfl)) px_d319_144 ⟨(Nat.le_of_ble_eq_true rfl), (Nat.le_of_ble_eq_true rfl)⟩) hS (fun q _ h => hFc q h) hFc (fun r144 u t H1 locs ht hvm hw hB hz1 hk1 hS => ?_)
            obtain ⟨v13, v14, v15, v16, v17, v18⟩ := u
            obtain ⟨hP1, hK1, hD1⟩ := hB
            rw [ht] at hP1
            have hK1 := va_K.moved hvm.symm hK1
            obtain ⟨hP, hD⟩ := va_join (wr := [(h1, .inr (3, [.long w1_low, .long w1_middle, .long w1_high])), (h2, .inr (3, [.long w2_low, .long w2_middle, .long w2_high]))]) (w1 := [(h0, .inr (3, [.long v13, .long v14, .long v15])), (h3, .inr (3, [.long v16, .long v17, .long v18]))]) hP hD [0, 3] [1, 2] rfl rfl (by decide) (by decide) hk1 hFc hP1 hD1
            generalize H1 = H at hP hS ⊢
            have hP : va_P (dC, dI) vwCl [(h1, .inr (3, [.long w1_low, .long w1_middle, .long w1_high])), (h2, .inr (3, [.long w2_low, .long w2_middle, .long w2_high])), (h0, .inr (3, [.long v13, .long v14, .long v15])), (h3, .inr (3, [.long v16, .long v17, .long v18]))] H := hP
            have hD : va_D A [(h1, .inr (3, [.long w1_low, .long w1_middle, .long w1_high])), (h2, .inr (3, [.long w2_low, .long w2_middle, .long w2_high])), (h0, .inr (3, [.long v13, .long v14, .long v15])), (h3, .inr (3, [.long v16, .long v17, .long v18]))] := hD
            have hP := hP.sub (ws' := [(h0, .inr (3, [.long v13, .long v14, .long v15])), (h1, .inr (3, [.long w1_low, .long w1_middle, .long w1_high])), (h2, .inr (3, [.long w2_low, .long w2_middle, .long w2_high])), (h3, .inr (3, [.long v16, .long v17, .long v18]))]) [2, 0, 1, 3] rfl
            have hD := hD.sub (ws' := [(h0, .inr (3, [.long v13, .long v14, .long v15])), (h1, .inr (3, [.long w1_low, .long w1_middle, .long w1_high])), (h2, .inr (3, [.long w2_low, .long w2_middle, .long w2_high])), (h3, .inr (3, [.long v16, .long v17, .long v18]))]) [2, 0, 1, 3] (by decide) rfl
            refine lv_if_le (tgt := 155) hx hb px_d319_147 (by decide) (fun c147 => ?_) (fun c147 => ?_)
            · have hw := hw.1 c147
              exact S155 z12 x5 x6 x7 v13 v14 v15 w1_low w1_middle w1_high w2_low w2_middle w2_high v16 v17 v18 H locs ls hP hD hS (lv_sub hl [1, 2, 3, 4, 0, 5, 6, 7] rfl) hw
            · have hw := hw.2 c147
              refine lv_aload_n hx hb px_d319_150 rfl (lv_at hl 1 rfl) ?_
              refine lv_aload_n hx hb px_d319_151 rfl (lv_at hl 4 rfl) ?_
              have hPc := hP.sub (ws' := [(h0, .inr (3, [.long v13, .long v14, .long v15])), (h3, .inr (3, [.long v16, .long v17, .long v18]))]) [0, 3] rfl
              have hDc := hD.sub (ws' := [(h0, .inr (3, [.long v13, .long v14, .long v15])), (h3, .inr (3, [.long v16, .long v17, .long v18]))]) [0, 3] (by decide) rfl
              have hKc := hK.sub (tys' := []) [] rfl
              have hFc := va_free (wc := [(h0, .inr (3, [.long v13, .long v14, .long v15])), (h3, .inr (3, [.long v16, .long v17, .long v18]))]) hD hS hA [0, 3] rfl
              refine va_callv (va_runV (As := [.ref h3]) (rest := []) ⟨hx, hb, hml, hown, htw⟩ (w327_met l dC dI H.size h0 h3 v13 v14 v15 v16 v17 v18 _ hw) (cwV 1 htw (px_gv px_w1609 px_w1635 px_w1636 px_w41 px_g327) rfl rfl rfl (by decide +kernel) ⟨Nat.le_of_ble_eq_true rfl, Nat.le_of_ble_eq_true rfl⟩) ⟨fun a U g mk q => by obtain ⟨q0, q1, qP, qK, qD, qN⟩ := q; exact ⟨q0, q1, qP, va_K.moved (u := U) (U := U.calling g mk a) (Vm.Alike.refl U.vm) qK, qD, qN.same rfl⟩, va_recv hK hP (ci := 3) (q0 := 0) rfl rfl, fun U hU hW => ⟨rfl, by rw [hU], by rw [hU]; exact hPc, va_K.moved hW.alike hKc, hDc.weaken (fun _ _ _ _ => trivial), hN.warm hW⟩⟩ rfl rfl hl.1 rfl (lv_room (Nat.le_of_ble_eq_true rfl)) px_d319_152 ⟨(Nat.le_of_ble_eq_true rfl), (Nat.le_of_ble_eq_true rfl)⟩) hS (fun q _ h => hFc q h) hFc (fun u t H1 locs ht hvm hw hB hz1 hk1 hS => ?_)
              obtain ⟨v19, v20, v21, v22, v23, v24⟩ := u
              obtain ⟨hP1, hK1, hD1⟩ := hB
              rw [ht] at hP1
              have hK1 := va_K.moved hvm.symm hK1
              obtain ⟨hP, hD⟩ := va_join (wr := [(h1, .inr (3, [.long w1_low, .long w1_middle, .long w1_high])), (h2, .inr (3, [.long w2_low, .long w2_middle, .long w2_high]))]) (w1 := [(h0, .inr (3, [.long v19, .long v20, .long v21])), (h3, .inr (3, [.long v22, .long v23, .long v24]))]) hP hD [0, 3] [1, 2] rfl rfl (by decide) (by decide) hk1 hFc hP1 hD1
              generalize H1 = H at hP hS ⊢
              have hP : va_P (dC, dI) vwCl [(h1, .inr (3, [.long w1_low, .long w1_middle, .long w1_high])), (h2, .inr (3, [.long w2_low, .long w2_middle, .long w2_high])), (h0, .inr (3, [.long v19, .long v20, .long v21])), (h3, .inr (3, [.long v22, .long v23, .long v24]))] H := hP
              have hD : va_D A [(h1, .inr (3, [.long w1_low, .long w1_middle, .long w1_high])), (h2, .inr (3, [.long w2_low, .long w2_middle, .long w2_high])), (h0, .inr (3, [.long v19, .long v20, .long v21])), (h3, .inr (3, [.long v22, .long v23, .long v24]))] := hD
              have hP := hP.sub (ws' := [(h0, .inr (3, [.long v19, .long v20, .long v21])), (h1, .inr (3, [.long w1_low, .long w1_middle, .long w1_high])), (h2, .inr (3, [.long w2_low, .long w2_middle, .long w2_high])), (h3, .inr (3, [.long v22, .long v23, .long v24]))]) [2, 0, 1, 3] rfl
              have hD := hD.sub (ws' := [(h0, .inr (3, [.long v19, .long v20, .long v21])), (h1, .inr (3, [.long w1_low, .long w1_middle, .long w1_high])), (h2, .inr (3, [.long w2_low, .long w2_middle, .long w2_high])), (h3, .inr (3, [.long v22, .long v23, .long v24]))]) [2, 0, 1, 3] (by decide) rfl
              exact S155 z12 x5 x6 x7 v19 v20 v21 w1_low w1_middle w1_high w2_low w2_middle w2_high v22 v23 v24 H locs ls hP hD hS (lv_sub hl [1, 2, 3, 4, 0, 5, 6, 7] rfl) hw
      have S128 : ∀ (x4 : Int32) (x5 : Int32) (x6 : Int32) (x7 : Int32) (y0 : Int32) (w0_low : Int64) (w0_middle : Int64) (w0_high : Int64) (w1_low : Int64) (w1_middle : Int64) (w1_high : Int64) (w2_low : Int64) (w2_middle : Int64) (w2_high : Int64) (w3_low : Int64) (w3_middle : Int64) (w3_high : Int64) (H : Heap) (locs : List Loc) (ls : Array Slot), va_P (dC, dI) vwCl [(h0, .inr (3, [.long w0_low, .long w0_middle, .long w0_high])), (h1, .inr (3, [.long w1_low, .long w1_middle, .long w1_high])), (h2, .inr (3, [.long w2_low, .long w2_middle, .long w2_high])), (h3, .inr (3, [.long w3_low, .long w3_middle, .long w3_high]))] H → va_D A [(h0, .inr (3, [.long w0_low, .long w0_middle, .long w0_high])), (h1, .inr (3, [.long w1_low, .long w1_middle, .long w1_high])), (h2, .inr (3, [.long w2_low, .long w2_middle, .long w2_high])), (h3, .inr (3, [.long w3_low, .long w3_middle, .long w3_high]))] → va_S A s.heap H locs → lv_has ls 8 [(0, .ref h0), (1, .ref h1), (2, .ref h2), (3, .ref h3), (4, .int x4), (5, .int x5), (6, .int x6), (7, .int x7)] → w319_L128 (w319_L43 post k43) post x4 x5 x6 x7 y0 w0_low w0_middle w0_high w1_low w1_middle w1_high w2_low w2_middle w2_high w3_low w3_middle w3_high → W p l e (headSpec px_s319 ({ frames := 2, cells := 0, slots := 0, locals := 62 })).room s m ([.ref h0, .ref h1, .ref h2, .ref h3]).toArray below meth c H locs 0 0 Q (F0 m 128 ls [.int y0]) := by
        intro x4 x5 x6 x7 y0 w0_low w0_middle w0_high w1_low w1_middle w1_high w2_low w2_middle w2_high w3_low w3_middle w3_high H locs ls hP hD hS hl hw
        unfold w319_L128 at hw
        refine lv_iconst (v := 0) hx hb px_d319_128 (by decide) ?_
        exact S129 x4 x5 x6 x7 0 y0 w0_low w0_middle w0_high w1_low w1_middle w1_high w2_low w2_middle w2_high w3_low w3_middle w3_high H locs ls hP hD hS (lv_sub hl [0, 1, 2, 3, 4, 5, 6, 7] rfl) hw
      have S112 : ∀ (x4 : Int32) (x5 : Int32) (x6 : Int32) (x7 : Int32) (w0_low : Int64) (w0_middle : Int64) (w0_high : Int64) (w1_low : Int64) (w1_middle : Int64) (w1_high : Int64) (w2_low : Int64) (w2_middle : Int64) (w2_high : Int64) (w3_low : Int64) (w3_middle : Int64) (w3_high : Int64) (H : Heap) (locs : List Loc) (ls : Array Slot), va_P (dC, dI) vwCl [(h0, .inr (3, [.long w0_low, .long w0_middle, .long w0_high])), (h1, .inr (3, [.long w1_low, .long w1_middle, .long w1_high])), (h2, .inr (3, [.long w2_low, .long w2_middle, .long w2_high])), (h3, .inr (3, [.long w3_low, .long w3_middle, .long w3_high]))] H → va_D A [(h0, .inr (3, [.long w0_low, .long w0_middle, .long w0_high])), (h1, .inr (3, [.long w1_low, .long w1_middle, .long w1_high])), (h2, .inr (3, [.long w2_low, .long w2_middle, .long w2_high])), (h3, .inr (3, [.long w3_low, .long w3_middle, .long w3_high]))] → va_S A s.heap H locs → lv_has ls 8 [(0, .ref h0), (1, .ref h1), (2, .ref h2), (3, .ref h3), (4, .int x4), (5, .int x5), (6, .int x6), (7, .int x7)] → w319_L112 (w319_L43 post k43) post x4 x5 x6 x7 w0_low w0_middle w0_high w1_low w1_middle w1_high w2_low w2_middle w2_high w3_low w3_middle w3_high → W p l e (headSpec px_s319 ({ frames := 2, cells := 0, slots := 0, locals := 62 })).room s m ([.ref h0, .ref h1, .ref h2, .ref h3]).toArray below meth c H locs 0 0 Q (F0 m 112 ls []) := by
        intro x4 x5 x6 x7 w0_low w0_middle w0_high w1_low w1_middle w1_high w2_low w2_middle w2_high w3_low w3_middle w3_high H locs ls hP hD hS hl hw
        unfold w319_L112 at hw
        refine lv_iload hx hb px_d319_112 (lv_at hl 4 rfl) ?_
        refine lv_iload hx hb px_d319_114 (lv_at hl 6 rfl) ?_
        refine lv_if_eq (tgt := 128) hx hb px_d319_116 (by decide) (fun c116 => ?_) (fun c116 => ?_)
        · have hw := hw.1 c116
          exact S128 x4 x5 x6 x7 x4 w0_low w0_middle w0_high w1_low w1_middle w1_high w2_low w2_middle w2_high w3_low w3_middle w3_high H locs ls hP hD hS (lv_sub hl [0, 1, 2, 3, 4, 5, 6, 7] rfl) hw
        · have hw := hw.2 c116
          refine lv_iload hx hb px_d319_119 (lv_at hl 7 rfl) ?_
          refine lv_if_eq (tgt := 128) hx hb px_d319_121 (by decide) (fun c121 => ?_) (fun c121 => ?_)
          · have hw := hw.1 c121
            exact S128 x4 x5 x6 x7 x4 w0_low w0_middle w0_high w1_low w1_middle w1_high w2_low w2_middle w2_high w3_low w3_middle w3_high H locs ls hP hD hS (lv_sub hl [0, 1, 2, 3, 4, 5, 6, 7] rfl) hw
          · have hw := hw.2 c121
            refine lv_iconst (v := 1) hx hb px_d319_124 (by decide) ?_
            refine lv_goto (tgt := 129) hx hb px_d319_125 (by decide) ?_
            exact S129 x4 x5 x6 x7 1 x4 w0_low w0_middle w0_high w1_low w1_middle w1_high w2_low w2_middle w2_high w3_low w3_middle w3_high H locs ls hP hD hS (lv_sub hl [0, 1, 2, 3, 4, 5, 6, 7] rfl) hw
      have S103 : ∀ (x4 : Int32) (x5 : Int32) (x6 : Int32) (x7 : Int32) (w0_low : Int64) (w0_middle : Int64) (w0_high : Int64) (w1_low : Int64) (w1_middle : Int64) (w1_high : Int64) (w2_low : Int64) (w2_middle : Int64) (w2_high : Int64) (w3_low : Int64) (w3_middle : Int64) (w3_high : Int64) (H : Heap) (locs : List Loc) (ls : Array Slot), va_P (dC, dI) vwCl [(h0, .inr (3, [.long w0_low, .long w0_middle, .long w0_high])), (h1, .inr (3, [.long w1_low, .long w1_middle, .long w1_high])), (h2, .inr (3, [.long w2_low, .long w2_middle, .long w2_high])), (h3, .inr (3, [.long w3_low, .long w3_middle, .long w3_high]))] H → va_D A [(h0, .inr (3, [.long w0_low, .long w0_middle, .long w0_high])), (h1, .inr (3, [.long w1_low, .long w1_middle, .long w1_high])), (h2, .inr (3, [.long w2_low, .long w2_middle, .long w2_high])), (h3, .inr (3, [.long w3_low, .long w3_middle, .long w3_high]))] → va_S A s.heap H locs → lv_has ls 8 [(0, .ref h0), (1, .ref h1), (2, .ref h2), (3, .ref h3), (4, .int x4), (5, .int x5), (6, .int x6), (7, .int x7)] → w319_L103 (w319_L43 post k43) post x4 x5 x6 x7 w0_low w0_middle w0_high w1_low w1_middle w1_high w2_low w2_middle w2_high w3_low w3_middle w3_high → W p l e (headSpec px_s319 ({ frames := 2, cells := 0, slots := 0, locals := 62 })).room s m ([.ref h0, .ref h1, .ref h2, .ref h3]).toArray below meth c H locs 0 0 Q (F0 m 103 ls []) := by
        intro x4 x5 x6 x7 w0_low w0_middle w0_high w1_low w1_middle w1_high w2_low w2_middle w2_high w3_low w3_middle w3_high H locs ls hP hD hS hl hw
        unfold w319_L103 at hw
        refine lv_iload hx hb px_d319_103 (lv_at hl 7 rfl) ?_
        refine lv_if_eq (tgt := 112) hx hb px_d319_105 (by decide) (fun c105 => ?_) (fun c105 => ?_)
        · have hw := hw.1 c105
          exact S112 x4 x5 x6 x7 w0_low w0_middle w0_high w1_low w1_middle w1_high w2_low w2_middle w2_high w3_low w3_middle w3_high H locs ls hP hD hS (lv_sub hl [0, 1, 2, 3, 4, 5, 6, 7] rfl) hw
        · have hw := hw.2 c105
          refine lv_aload_n hx hb px_d319_108 rfl (lv_at hl 3 rfl) ?_
          have hPc := hP.sub (ws' := [(h3, .inr (3, [.long w3_low, .long w3_middle, .long w3_high]))]) [3] rfl
          have hDc := hD.sub (ws' := [(h3, .inr (3, [.long w3_low, .long w3_middle, .long w3_high]))]) [3] (by decide) rfl
          have hKc := hK.sub (tys' := []) [] rfl
          have hFc := va_free (wc := [(h3, .inr (3, [.long w3_low, .long w3_middle, .long w3_high]))]) hD hS hA [3] rfl
          refine va_callv (va_runV (As := []) (rest := []) ⟨hx, hb, hml, hown, htw⟩ (w324_met l dC dI H.size h3 w3_low w3_middle w3_high _ hw) (cwV 0 htw (px_gv px_w1607 px_w1626 px_w1627 px_w41 px_g324) rfl rfl rfl (by decide +kernel) ⟨Nat.le_of_ble_eq_true rfl, Nat.le_of_ble_eq_true rfl⟩) ⟨fun a U g mk q => by obtain ⟨q0, q1, qP, qK, qD, qN⟩ := q; exact ⟨q0, q1, qP, va_K.moved (u := U) (U := U.calling g mk a) (Vm.Alike.refl U.vm) qK, qD, qN.same rfl⟩, va_recv hK hP (ci := 3) (q0 := 3) rfl rfl, fun U hU hW => ⟨rfl, by rw [hU], by rw [hU]; exact hPc, va_K.moved hW.alike hKc, hDc.weaken (fun _ _ _ _ => trivial), hN.warm hW⟩⟩ rfl rfl hl.1 rfl (lv_room (Nat.le_of_ble_eq_true rfl)) px_d319_109 ⟨(Nat.le_of_ble_eq_true rfl), (Nat.le_of_ble_eq_true rfl)⟩) hS (fun q _ h => hFc q h) hFc (fun u t H1 locs ht hvm hw hB hz1 hk1 hS => ?_)
          obtain ⟨v25, v26, v27⟩ := u
          obtain ⟨hP1, hK1, hD1⟩ := hB
          rw [ht] at hP1
          have hK1 := va_K.moved hvm.symm hK1
          obtain ⟨hP, hD⟩ := va_join (wr := [(h0, .inr (3, [.long w0_low, .long w0_middle, .long w0_high])), (h1, .inr (3, [.long w1_low, .long w1_middle, .long w1_high])), (h2, .inr (3, [.long w2_low, .long w2_middle, .long w2_high]))]) (w1 := [(h3, .inr (3, [.long v25, .long v26, .long v27]))]) hP hD [3] [0, 1, 2] rfl rfl (by decide) (by decide) hk1 hFc hP1 hD1
          generalize H1 = H at hP hS ⊢
          have hP : va_P (dC, dI) vwCl [(h0, .inr (3, [.long w0_low, .long w0_middle, .long w0_high])), (h1, .inr (3, [.long w1_low, .long w1_middle, .long w1_high])), (h2, .inr (3, [.long w2_low, .long w2_middle, .long w2_high])), (h3, .inr (3, [.long v25, .long v26, .long v27]))] H := hP
          have hD : va_D A [(h0, .inr (3, [.long w0_low, .long w0_middle, .long w0_high])), (h1, .inr (3, [.long w1_low, .long w1_middle, .long w1_high])), (h2, .inr (3, [.long w2_low, .long w2_middle, .long w2_high])), (h3, .inr (3, [.long v25, .long v26, .long v27]))] := hD
          exact S112 x4 x5 x6 x7 w0_low w0_middle w0_high w1_low w1_middle w1_high w2_low w2_middle w2_high v25 v26 v27 H locs ls hP hD hS (lv_sub hl [0, 1, 2, 3, 4, 5, 6, 7] rfl) hw
      have S92 : ∀ (x4 : Int32) (x5 : Int32) (x6 : Int32) (y0 : Int32) (w0_low : Int64) (w0_middle : Int64) (w0_high : Int64) (w1_low : Int64) (w1_middle : Int64) (w1_high : Int64) (w2_low : Int64) (w2_middle : Int64) (w2_high : Int64) (w3_low : Int64) (w3_middle : Int64) (w3_high : Int64) (H : Heap) (locs : List Loc) (ls : Array Slot), va_P (dC, dI) vwCl [(h0, .inr (3, [.long w0_low, .long w0_middle, .long w0_high])), (h1, .inr (3, [.long w1_low, .long w1_middle, .long w1_high])), (h2, .inr (3, [.long w2_low, .long w2_middle, .long w2_high])), (h3, .inr (3, [.long w3_low, .long w3_middle, .long w3_high]))] H → va_D A [(h0, .inr (3, [.long w0_low, .long w0_middle, .long w0_high])), (h1, .inr (3, [.long w1_low, .long w1_middle, .long w1_high])), (h2, .inr (3, [.long w2_low, .long w2_middle, .long w2_high])), (h3, .inr (3, [.long w3_low, .long w3_middle, .long w3_high]))] → va_S A s.heap H locs → lv_has ls 8 [(0, .ref h0), (1, .ref h1), (2, .ref h2), (3, .ref h3), (4, .int x4), (5, .int x5), (6, .int x6)] → w319_L92 (w319_L43 post k43) post x4 x5 x6 y0 w0_low w0_middle w0_high w1_low w1_middle w1_high w2_low w2_middle w2_high w3_low w3_middle w3_high → W p l e (headSpec px_s319 ({ frames := 2, cells := 0, slots := 0, locals := 62 })).room s m ([.ref h0, .ref h1, .ref h2, .ref h3]).toArray below meth c H locs 0 0 Q (F0 m 92 ls [.int y0]) := by
        intro x4 x5 x6 y0 w0_low w0_middle w0_high w1_low w1_middle w1_high w2_low w2_middle w2_high w3_low w3_middle w3_high H locs ls hP hD hS hl hw
        unfold w319_L92 at hw
        refine lv_istore (lv' := [(7, .int y0), (0, .ref h0), (1, .ref h1), (2, .ref h2), (3, .ref h3), (4, .int x4), (5, .int x5), (6, .int x6)]) hx hb px_d319_92 hl (by decide) rfl (fun ls hl => ?_)
        refine lv_iload hx hb px_d319_94 (lv_at hl 7 rfl) ?_
        refine lv_if_eq (tgt := 103) hx hb px_d319_96 (by decide) (fun c96 => ?_) (fun c96 => ?_)
        · have hw := hw.1 c96
          exact S103 x4 x5 x6 y0 w0_low w0_middle w0_high w1_low w1_middle w1_high w2_low w2_middle w2_high w3_low w3_middle w3_high H locs ls hP hD hS (lv_sub hl [1, 2, 3, 4, 5, 6, 7, 0] rfl) hw
        · have hw := hw.2 c96
          refine lv_aload_n hx hb px_d319_99 rfl (lv_at hl 1 rfl) ?_
          have hPc := hP.sub (ws' := [(h0, .inr (3, [.long w0_low, .long w0_middle, .long w0_high]))]) [0] rfl
          have hDc := hD.sub (ws' := [(h0, .inr (3, [.long w0_low, .long w0_middle, .long w0_high]))]) [0] (by decide) rfl
          have hKc := hK.sub (tys' := []) [] rfl
          have hFc := va_free (wc := [(h0, .inr (3, [.long w0_low, .long w0_middle, .long w0_high]))]) hD hS hA [0] rfl
          refine va_callv (va_runV (As := []) (rest := []) ⟨hx, hb, hml, hown, htw⟩ (w324_met l dC dI H.size h0 w0_low w0_middle w0_high _ hw) (cwV 0 htw (px_gv px_w1607 px_w1626 px_w1627 px_w41 px_g324) rfl rfl rfl (by decide +kernel) ⟨Nat.le_of_ble_eq_true rfl, Nat.le_of_ble_eq_true rfl⟩) ⟨fun a U g mk q => by obtain ⟨q0, q1, qP, qK, qD, qN⟩ := q; exact ⟨q0, q1, qP, va_K.moved (u := U) (U := U.calling g mk a) (Vm.Alike.refl U.vm) qK, qD, qN.same rfl⟩, va_recv hK hP (ci := 3) (q0 := 0) rfl rfl, fun U hU hW => ⟨rfl, by rw [hU], by rw [hU]; exact hPc, va_K.moved hW.alike hKc, hDc.weaken (fun _ _ _ _ => trivial), hN.warm hW⟩⟩ rfl rfl hl.1 rfl (lv_room (Nat.le_of_ble_eq_true rfl)) px_d319_100 ⟨(Nat.le_of_ble_eq_true rfl), (Nat.le_of_ble_eq_true rfl)⟩) hS (fun q _ h => hFc q h) hFc (fun u t H1 locs ht hvm hw hB hz1 hk1 hS => ?_)
          obtain ⟨v28, v29, v30⟩ := u
          obtain ⟨hP1, hK1, hD1⟩ := hB
          rw [ht] at hP1
          have hK1 := va_K.moved hvm.symm hK1
          obtain ⟨hP, hD⟩ := va_join (wr := [(h1, .inr (3, [.long w1_low, .long w1_middle, .long w1_high])), (h2, .inr (3, [.long w2_low, .long w2_middle, .long w2_high])), (h3, .inr (3, [.long w3_low, .long w3_middle, .long w3_high]))]) (w1 := [(h0, .inr (3, [.long v28, .long v29, .long v30]))]) hP hD [0] [1, 2, 3] rfl rfl (by decide) (by decide) hk1 hFc hP1 hD1
          generalize H1 = H at hP hS ⊢
          have hP : va_P (dC, dI) vwCl [(h1, .inr (3, [.long w1_low, .long w1_middle, .long w1_high])), (h2, .inr (3, [.long w2_low, .long w2_middle, .long w2_high])), (h3, .inr (3, [.long w3_low, .long w3_middle, .long w3_high])), (h0, .inr (3, [.long v28, .long v29, .long v30]))] H := hP
          have hD : va_D A [(h1, .inr (3, [.long w1_low, .long w1_middle, .long w1_high])), (h2, .inr (3, [.long w2_low, .long w2_middle, .long w2_high])), (h3, .inr (3, [.long w3_low, .long w3_middle, .long w3_high])), (h0, .inr (3, [.long v28, .long v29, .long v30]))] := hD
          have hP := hP.sub (ws' := [(h0, .inr (3, [.long v28, .long v29, .long v30])), (h1, .inr (3, [.long w1_low, .long w1_middle, .long w1_high])), (h2, .inr (3, [.long w2_low, .long w2_middle, .long w2_high])), (h3, .inr (3, [.long w3_low, .long w3_middle, .long w3_high]))]) [3, 0, 1, 2] rfl
          have hD := hD.sub (ws' := [(h0, .inr (3, [.long v28, .long v29, .long v30])), (h1, .inr (3, [.long w1_low, .long w1_middle, .long w1_high])), (h2, .inr (3, [.long w2_low, .long w2_middle, .long w2_high])), (h3, .inr (3, [.long w3_low, .long w3_middle, .long w3_high]))]) [3, 0, 1, 2] (by decide) rfl
          exact S103 x4 x5 x6 y0 v28 v29 v30 w1_low w1_middle w1_high w2_low w2_middle w2_high w3_low w3_middle w3_high H locs ls hP hD hS (lv_sub hl [1, 2, 3, 4, 5, 6, 7, 0] rfl) hw
      have S74 : ∀ (x4 : Int32) (x5 : Int32) (y0 : Int32) (w0_low : Int64) (w0_middle : Int64) (w0_high : Int64) (w1_low : Int64) (w1_middle : Int64) (w1_high : Int64) (w2_low : Int64) (w2_middle : Int64) (w2_high : Int64) (w3_low : Int64) (w3_middle : Int64) (w3_high : Int64) (H : Heap) (locs : List Loc) (ls : Array Slot), va_P (dC, dI) vwCl [(h0, .inr (3, [.long w0_low, .long w0_middle, .long w0_high])), (h1, .inr (3, [.long w1_low, .long w1_middle, .long w1_high])), (h2, .inr (3, [.long w2_low, .long w2_middle, .long w2_high])), (h3, .inr (3, [.long w3_low, .long w3_middle, .long w3_high]))] H → va_D A [(h0, .inr (3, [.long w0_low, .long w0_middle, .long w0_high])), (h1, .inr (3, [.long w1_low, .long w1_middle, .long w1_high])), (h2, .inr (3, [.long w2_low, .long w2_middle, .long w2_high])), (h3, .inr (3, [.long w3_low, .long w3_middle, .long w3_high]))] → va_S A s.heap H locs → lv_has ls 8 [(0, .ref h0), (1, .ref h1), (2, .ref h2), (3, .ref h3), (4, .int x4), (5, .int x5)] → w319_L74 (w319_L43 post k43) post x4 x5 y0 w0_low w0_middle w0_high w1_low w1_middle w1_high w2_low w2_middle w2_high w3_low w3_middle w3_high → W p l e (headSpec px_s319 ({ frames := 2, cells := 0, slots := 0, locals := 62 })).room s m ([.ref h0, .ref h1, .ref h2, .ref h3]).toArray below meth c H locs 0 0 Q (F0 m 74 ls [.int y0]) := by
        intro x4 x5 y0 w0_low w0_middle w0_high w1_low w1_middle w1_high w2_low w2_middle w2_high w3_low w3_middle w3_high H locs ls hP hD hS hl hw
        unfold w319_L74 at hw
        refine lv_istore (lv' := [(6, .int y0), (0, .ref h0), (1, .ref h1), (2, .ref h2), (3, .ref h3), (4, .int x4), (5, .int x5)]) hx hb px_d319_74 hl (by decide) rfl (fun ls hl => ?_)
        refine lv_aload_n hx hb px_d319_76 rfl (lv_at hl 4 rfl) ?_
        refine va_get (D := (dC, dI)) (ci := 3) (v := .long w3_low) (C := "MatroidDesk$Wide") (T := px_T3) (N := 3) hx hb htw px_in3 hown hK hP 3 rfl rfl 0 (by decide) (htw _ px_w1593) (fun _ h9 => h9) rfl px_d319_77 ?_
        refine lv_lconst (v := 1) hx hb px_d319_80 (by decide) ?_
        refine lv_land hx hb px_d319_81 ?_
        refine lv_lconst (v := 0) hx hb px_d319_82 (by decide) ?_
        refine W.lcmp hx hb px_d319_83 ?_
        refine lv_if_ne (tgt := 91) hx hb px_d319_84 (by decide) (fun c84 => ?_) (fun c84 => ?_)
        · have hw := hw.1 c84
          refine lv_iconst (v := 0) hx hb px_d319_91 (by decide) ?_
          exact S92 x4 x5 y0 0 w0_low w0_middle w0_high w1_low w1_middle w1_high w2_low w2_middle w2_high w3_low w3_middle w3_high H locs ls hP hD hS (lv_sub hl [1, 2, 3, 4, 5, 6, 0] rfl) hw
        · have hw := hw.2 c84
          refine lv_iconst (v := 1) hx hb px_d319_87 (by decide) ?_
          refine lv_goto (tgt := 92) hx hb px_d319_88 (by decide) ?_
          exact S92 x4 x5 y0 1 w0_low w0_middle w0_high w1_low w1_middle w1_high w2_low w2_middle w2_high w3_low w3_middle w3_high H locs ls hP hD hS (lv_sub hl [1, 2, 3, 4, 5, 6, 0] rfl) hw
      intro x4 x5 w0_low w0_middle w0_high w1_low w1_middle w1_high w2_low w2_middle w2_high w3_low w3_middle w3_high H locs ls hP hD hS hl hw
      unfold w319_L43 at hw
      refine lv_iload hx hb px_d319_43 (lv_at hl 5 rfl) ?_
      refine lv_sipush (v := 768) hx hb px_d319_45 (by decide) ?_
      refine lv_icmp_ge (tgt := 166) hx hb px_d319_48 (by decide) (fun c48 => ?_) (fun c48 => ?_)
      · have hw := hw.1 c48
        exact S166 x4 x5 w0_low w0_middle w0_high w1_low w1_middle w1_high w2_low w2_middle w2_high w3_low w3_middle w3_high H locs ls hP hD hS (lv_sub hl [0, 1, 2, 3, 4, 5] rfl) hw
      · have hw := hw.2 c48
        refine lv_aload_n hx hb px_d319_51 rfl (lv_at hl 3 rfl) ?_
        have hPc := hP.sub (ws' := [(h3, .inr (3, [.long w3_low, .long w3_middle, .long w3_high]))]) [3] rfl
        have hDc := hD.sub (ws' := [(h3, .inr (3, [.long w3_low, .long w3_middle, .long w3_high]))]) [3] (by decide) rfl
        have hKc := hK.sub (tys' := []) [] rfl
        have hFc := va_free (wc := [(h3, .inr (3, [.long w3_low, .long w3_middle, .long w3_high]))]) hD hS hA [3] rfl
        refine va_calli (va_runV (As := []) (rest := []) ⟨hx, hb, hml, hown, htw⟩ (w318_met l dC dI H.size h3 w3_low w3_middle w3_high _ hw) (cwV 0 htw (px_gv px_w1606 px_w1597 px_w1598 px_w41 px_g318) rfl rfl rfl (by decide +kernel) ⟨Nat.le_of_ble_eq_true rfl, Nat.le_of_ble_eq_true rfl⟩) ⟨fun a U g mk q => by obtain ⟨q0, q1, qP, qK, qD, qN⟩ := q; exact ⟨q0, q1, qP, va_K.moved (u := U) (U := U.calling g mk a) (Vm.Alike.refl U.vm) qK, qD, qN.same rfl⟩, va_recv hK hP (ci := 3) (q0 := 3) rfl rfl, fun U hU hW => ⟨rfl, by rw [hU], by rw [hU]; exact hPc, va_K.moved hW.alike hKc, hDc.weaken (fun _ _ _ _ => trivial), hN.warm hW⟩⟩ rfl rfl hl.1 rfl (lv_room (Nat.le_of_ble_eq_true rfl)) px_d319_52 ⟨(Nat.le_of_ble_eq_true rfl), (Nat.le_of_ble_eq_true rfl)⟩) hS (fun q _ h => hFc q h) hFc (fun r52 u t H1 locs ht hvm hw hB hz1 hk1 hS => ?_)
        obtain ⟨v31, v32, v33⟩ := u
        obtain ⟨hP1, hK1, hD1⟩ := hB
        rw [ht] at hP1
        have hK1 := va_K.moved hvm.symm hK1
        obtain ⟨hP, hD⟩ := va_join (wr := [(h0, .inr (3, [.long w0_low, .long w0_middle, .long w0_high])), (h1, .inr (3, [.long w1_low, .long w1_middle, .long w1_high])), (h2, .inr (3, [.long w2_low, .long w2_middle, .long w2_high]))]) (w1 := [(h3, .inr (3, [.long v31, .long v32, .long v33]))]) hP hD [3] [0, 1, 2] rfl rfl (by decide) (by decide) hk1 hFc hP1 hD1
        generalize H1 = H at hP hS ⊢
        have hP : va_P (dC, dI) vwCl [(h0, .inr (3, [.long w0_low, .long w0_middle, .long w0_high])), (h1, .inr (3, [.long w1_low, .long w1_middle, .long w1_high])), (h2, .inr (3, [.long w2_low, .long w2_middle, .long w2_high])), (h3, .inr (3, [.long v31, .long v32, .long v33]))] H := hP
        have hD : va_D A [(h0, .inr (3, [.long w0_low, .long w0_middle, .long w0_high])), (h1, .inr (3, [.long w1_low, .long w1_middle, .long w1_high])), (h2, .inr (3, [.long w2_low, .long w2_middle, .long w2_high])), (h3, .inr (3, [.long v31, .long v32, .long v33]))] := hD
        refine lv_if_ne (tgt := 166) hx hb px_d319_55 (by decide) (fun c55 => ?_) (fun c55 => ?_)
        · have hw := hw.1 c55
          exact S166 x4 x5 w0_low w0_middle w0_high w1_low w1_middle w1_high w2_low w2_middle w2_high v31 v32 v33 H locs ls hP hD hS (lv_sub hl [0, 1, 2, 3, 4, 5] rfl) hw
        · have hw := hw.2 c55
          refine lv_aload_n hx hb px_d319_58 rfl (lv_at hl 0 rfl) ?_
          refine va_get (D := (dC, dI)) (ci := 3) (v := .long w0_low) (C := "MatroidDesk$Wide") (T := px_T3) (N := 3) hx hb htw px_in3 hown hK hP 0 rfl rfl 0 (by decide) (htw _ px_w1593) (fun _ h9 => h9) rfl px_d319_59 ?_
          refine lv_lconst (v := 1) hx hb px_d319_62 (by decide) ?_
          refine lv_land hx hb px_d319_63 ?_
          refine lv_lconst (v := 0) hx hb px_d319_64 (by decide) ?_
          refine W.lcmp hx hb px_d319_65 ?_
          refine lv_if_ne (tgt := 73) hx hb px_d319_66 (by decide) (fun c66 => ?_) (fun c66 => ?_)
          · have hw := hw.1 c66
            refine lv_iconst (v := 0) hx hb px_d319_73 (by decide) ?_
            exact S74 x4 x5 0 w0_low w0_middle w0_high w1_low w1_middle w1_high w2_low w2_middle w2_high v31 v32 v33 H locs ls hP hD hS (lv_sub hl [0, 1, 2, 3, 4, 5] rfl) hw
          · have hw := hw.2 c66
            refine lv_iconst (v := 1) hx hb px_d319_69 (by decide) ?_
            refine lv_goto (tgt := 74) hx hb px_d319_70 (by decide) ?_
            exact S74 x4 x5 1 w0_low w0_middle w0_high w1_low w1_middle w1_high w2_low w2_middle w2_high v31 v32 v33 H locs ls hP hD hS (lv_sub hl [0, 1, 2, 3, 4, 5] rfl) hw
  have S27 : ∀ (w0_low : Int64) (w0_middle : Int64) (w0_high : Int64) (w1_low : Int64) (w1_middle : Int64) (w1_high : Int64) (w2_low : Int64) (w2_middle : Int64) (w2_high : Int64) (w3_low : Int64) (w3_middle : Int64) (w3_high : Int64) (H : Heap) (locs : List Loc) (ls : Array Slot), va_P (dC, dI) vwCl [(h0, .inr (3, [.long w0_low, .long w0_middle, .long w0_high])), (h1, .inr (3, [.long w1_low, .long w1_middle, .long w1_high])), (h2, .inr (3, [.long w2_low, .long w2_middle, .long w2_high])), (h3, .inr (3, [.long w3_low, .long w3_middle, .long w3_high]))] H → va_D A [(h0, .inr (3, [.long w0_low, .long w0_middle, .long w0_high])), (h1, .inr (3, [.long w1_low, .long w1_middle, .long w1_high])), (h2, .inr (3, [.long w2_low, .long w2_middle, .long w2_high])), (h3, .inr (3, [.long w3_low, .long w3_middle, .long w3_high]))] → va_S A s.heap H locs → lv_has ls 8 [(0, .ref h0), (1, .ref h1), (2, .ref h2), (3, .ref h3)] → w319_L27 post w0_low w0_middle w0_high w1_low w1_middle w1_high w2_low w2_middle w2_high w3_low w3_middle w3_high → W p l e (headSpec px_s319 ({ frames := 2, cells := 0, slots := 0, locals := 62 })).room s m ([.ref h0, .ref h1, .ref h2, .ref h3]).toArray below meth c H locs 0 0 Q (F0 m 27 ls []) := by
    intro w0_low w0_middle w0_high w1_low w1_middle w1_high w2_low w2_middle w2_high w3_low w3_middle w3_high H locs ls hP hD hS hl hw
    unfold w319_L27 at hw
    refine lv_aload_n hx hb px_d319_27 rfl (lv_at hl 0 rfl) ?_
    refine lv_aload_n hx hb px_d319_28 rfl (lv_at hl 1 rfl) ?_
    have hPc := hP.sub (ws' := [(h0, .inr (3, [.long w0_low, .long w0_middle, .long w0_high])), (h1, .inr (3, [.long w1_low, .long w1_middle, .long w1_high]))]) [0, 1] rfl
    have hDc := hD.sub (ws' := [(h0, .inr (3, [.long w0_low, .long w0_middle, .long w0_high])), (h1, .inr (3, [.long w1_low, .long w1_middle, .long w1_high]))]) [0, 1] (by decide) rfl
    have hKc := hK.sub (tys' := []) [] rfl
    have hFc := va_free (wc := [(h0, .inr (3, [.long w0_low, .long w0_middle, .long w0_high])), (h1, .inr (3, [.long w1_low, .long w1_middle, .long w1_high]))]) hD hS hA [0, 1] rfl
    refine va_callv (va_runV (As := [.ref h1]) (rest := []) ⟨hx, hb, hml, hown, htw⟩ (w323_met l dC dI H.size h0 h1 w0_low w0_middle w0_high w1_low w1_middle w1_high _ hw) (cwV 1 htw (px_gv px_w1605 px_w1623 px_w1624 px_w41 px_g323) rfl rfl rfl (by decide +kernel) ⟨Nat.le_of_ble_eq_true rfl, Nat.le_of_ble_eq_true rfl⟩) ⟨fun a U g mk q => by obtain ⟨q0, q1, qP, qK, qD, qN⟩ := q; exact ⟨q0, q1, qP, va_K.moved (u := U) (U := U.calling g mk a) (Vm.Alike.refl U.vm) qK, qD, qN.same rfl⟩, va_recv hK hP (ci := 3) (q0 := 0) rfl rfl, fun U hU hW => ⟨rfl, by rw [hU], by rw [hU]; exact hPc, va_K.moved hW.alike hKc, hDc.weaken (fun _ _ _ _ => trivial), hN.warm hW⟩⟩ rfl rfl hl.1 rfl (lv_room (Nat.le_of_ble_eq_true rfl)) px_d319_29 ⟨(Nat.le_of_ble_eq_true rfl), (Nat.le_of_ble_eq_true rfl)⟩) hS (fun q _ h => hFc q h) hFc (fun u t H1 locs ht hvm hw hB hz1 hk1 hS => ?_)
    obtain ⟨v34, v35, v36, v37, v38, v39⟩ := u
    obtain ⟨hP1, hK1, hD1⟩ := hB
    rw [ht] at hP1
    have hK1 := va_K.moved hvm.symm hK1
    obtain ⟨hP, hD⟩ := va_join (wr := [(h2, .inr (3, [.long w2_low, .long w2_middle, .long w2_high])), (h3, .inr (3, [.long w3_low, .long w3_middle, .long w3_high]))]) (w1 := [(h0, .inr (3, [.long v34, .long v35, .long v36])), (h1, .inr (3, [.long v37, .long v38, .long v39]))]) hP hD [0, 1] [2, 3] rfl rfl (by decide) (by decide) hk1 hFc hP1 hD1
    generalize H1 = H at hP hS ⊢
    have hP : va_P (dC, dI) vwCl [(h2, .inr (3, [.long w2_low, .long w2_middle, .long w2_high])), (h3, .inr (3, [.long w3_low, .long w3_middle, .long w3_high])), (h0, .inr (3, [.long v34, .long v35, .long v36])), (h1, .inr (3, [.long v37, .long v38, .long v39]))] H := hP
    have hD : va_D A [(h2, .inr (3, [.long w2_low, .long w2_middle, .long w2_high])), (h3, .inr (3, [.long w3_low, .long w3_middle, .long w3_high])), (h0, .inr (3, [.long v34, .long v35, .long v36])), (h1, .inr (3, [.long v37, .long v38, .long v39]))] := hD
    have hP := hP.sub (ws' := [(h0, .inr (3, [.long v34, .long v35, .long v36])), (h1, .inr (3, [.long v37, .long v38, .long v39])), (h2, .inr (3, [.long w2_low, .long w2_middle, .long w2_high])), (h3, .inr (3, [.long w3_low, .long w3_middle, .long w3_high]))]) [2, 3, 0, 1] rfl
    have hD := hD.sub (ws' := [(h0, .inr (3, [.long v34, .long v35, .long v36])), (h1, .inr (3, [.long v37, .long v38, .long v39])), (h2, .inr (3, [.long w2_low, .long w2_middle, .long w2_high])), (h3, .inr (3, [.long w3_low, .long w3_middle, .long w3_high]))]) [2, 3, 0, 1] (by decide) rfl
    refine lv_aload_n hx hb px_d319_32 rfl (lv_at hl 3 rfl) ?_
    refine lv_aload_n hx hb px_d319_33 rfl (lv_at hl 2 rfl) ?_
    have hPc := hP.sub (ws' := [(h3, .inr (3, [.long w3_low, .long w3_middle, .long w3_high])), (h2, .inr (3, [.long w2_low, .long w2_middle, .long w2_high]))]) [3, 2] rfl
    have hDc := hD.sub (ws' := [(h3, .inr (3, [.long w3_low, .long w3_middle, .long w3_high])), (h2, .inr (3, [.long w2_low, .long w2_middle, .long w2_high]))]) [3, 2] (by decide) rfl
    have hKc := hK.sub (tys' := []) [] rfl
    have hFc := va_free (wc := [(h3, .inr (3, [.long w3_low, .long w3_middle, .long w3_high])), (h2, .inr (3, [.long w2_low, .long w2_middle, .long w2_high]))]) hD hS hA [3, 2] rfl
    refine va_callv (va_runV (As := [.ref h2]) (rest := []) ⟨hx, hb, hml, hown, htw⟩ (w323_met l dC dI H.size h3 h2 w3_low w3_middle w3_high w2_low w2_middle w2_high _ hw) (cwV 1 htw (px_gv px_w1605 px_w1623 px_w1624 px_w41 px_g323) rfl rfl rfl (by decide +kernel) ⟨Nat.le_of_ble_eq_true rfl, Nat.le_of_ble_eq_true rfl⟩) ⟨fun a U g mk q => by obtain ⟨q0, q1, qP, qK, qD, qN⟩ := q; exact ⟨q0, q1, qP, va_K.moved (u := U) (U := U.calling g mk a) (Vm.Alike.refl U.vm) qK, qD, qN.same rfl⟩, va_recv hK hP (ci := 3) (q0 := 3) rfl rfl, fun U hU hW => ⟨rfl, by rw [hU], by rw [hU]; exact hPc, va_K.moved hW.alike hKc, hDc.weaken (fun _ _ _ _ => trivial), hN.warm hW⟩⟩ rfl rfl hl.1 rfl (lv_room (Nat.le_of_ble_eq_true rfl)) px_d319_34 ⟨(Nat.le_of_ble_eq_true rfl), (Nat.le_of_ble_eq_true rfl)⟩) hS (fun q _ h => hFc q h) hFc (fun u t H1 locs ht hvm hw hB hz1 hk1 hS => ?_)
    obtain ⟨v40, v41, v42, v43, v44, v45⟩ := u
    obtain ⟨hP1, hK1, hD1⟩ := hB
    rw [ht] at hP1
    have hK1 := va_K.moved hvm.symm hK1
    obtain ⟨hP, hD⟩ := va_join (wr := [(h0, .inr (3, [.long v34, .long v35, .long v36])), (h1, .inr (3, [.long v37, .long v38, .long v39]))]) (w1 := [(h3, .inr (3, [.long v40, .long v41, .long v42])), (h2, .inr (3, [.long v43, .long v44, .long v45]))]) hP hD [3, 2] [0, 1] rfl rfl (by decide) (by decide) hk1 hFc hP1 hD1
    generalize H1 = H at hP hS ⊢
    have hP : va_P (dC, dI) vwCl [(h0, .inr (3, [.long v34, .long v35, .long v36])), (h1, .inr (3, [.long v37, .long v38, .long v39])), (h3, .inr (3, [.long v40, .long v41, .long v42])), (h2, .inr (3, [.long v43, .long v44, .long v45]))] H := hP
    have hD : va_D A [(h0, .inr (3, [.long v34, .long v35, .long v36])), (h1, .inr (3, [.long v37, .long v38, .long v39])), (h3, .inr (3, [.long v40, .long v41, .long v42])), (h2, .inr (3, [.long v43, .long v44, .long v45]))] := hD
    have hP := hP.sub (ws' := [(h0, .inr (3, [.long v34, .long v35, .long v36])), (h1, .inr (3, [.long v37, .long v38, .long v39])), (h2, .inr (3, [.long v43, .long v44, .long v45])), (h3, .inr (3, [.long v40, .long v41, .long v42]))]) [0, 1, 3, 2] rfl
    have hD := hD.sub (ws' := [(h0, .inr (3, [.long v34, .long v35, .long v36])), (h1, .inr (3, [.long v37, .long v38, .long v39])), (h2, .inr (3, [.long v43, .long v44, .long v45])), (h3, .inr (3, [.long v40, .long v41, .long v42]))]) [0, 1, 3, 2] (by decide) rfl
    refine lv_iconst (v := 0) hx hb px_d319_37 (by decide) ?_
    refine lv_istore (lv' := [(4, .int 0), (0, .ref h0), (1, .ref h1), (2, .ref h2), (3, .ref h3)]) hx hb px_d319_38 hl (by decide) rfl (fun ls hl => ?_)
    refine lv_iconst (v := 0) hx hb px_d319_40 (by decide) ?_
    refine lv_istore (lv' := [(5, .int 0), (4, .int 0), (0, .ref h0), (1, .ref h1), (2, .ref h2), (3, .ref h3)]) hx hb px_d319_41 hl (by decide) rfl (fun ls hl => ?_)
    obtain ⟨k9, hw⟩ := hw
    exact S43 k9 0 0 v34 v35 v36 v37 v38 v39 v43 v44 v45 v40 v41 v42 H locs ls hP hD hS (lv_sub hl [2, 3, 4, 5, 1, 0] rfl) hw
  unfold w319_wp at hw
  have hS0 := hS
  obtain ⟨H, hH9⟩ : ∃ z, z = s.heap := ⟨_, rfl⟩
  have hP : va_P (dC, dI) vwCl [(h0, .inr (3, [.long w0_low, .long w0_middle, .long w0_high])), (h1, .inr (3, [.long w1_low, .long w1_middle, .long w1_high])), (h2, .inr (3, [.long w2_low, .long w2_middle, .long w2_high])), (h3, .inr (3, [.long w3_low, .long w3_middle, .long w3_high]))] H := by rw [hH9]; exact hP
  obtain ⟨locs, hlo9⟩ : ∃ z : List Loc, z = [] := ⟨_, rfl⟩
  have hS : va_S A s.heap H locs := by rw [hH9, hlo9]; exact hS
  suffices hG : W p l e (headSpec px_s319 ({ frames := 2, cells := 0, slots := 0, locals := 62 })).room s m ([.ref h0, .ref h1, .ref h2, .ref h3]).toArray below meth c H locs 0 0 Q (F0 m 0 ls []) by rw [hH9, hlo9] at hG; exact hG
  refine lv_aload_n hx hb px_d319_0 rfl (lv_at hl 1 rfl) ?_
  have hPc := hP.sub (ws' := [(h1, .inr (3, [.long w1_low, .long w1_middle, .long w1_high]))]) [1] rfl
  have hDc := hD.sub (ws' := [(h1, .inr (3, [.long w1_low, .long w1_middle, .long w1_high]))]) [1] (by decide) rfl
  have hKc := hK.sub (tys' := []) [] rfl
  have hFc := va_free (wc := [(h1, .inr (3, [.long w1_low, .long w1_middle, .long w1_high]))]) hD hS hA [1] rfl
  refine va_calli (va_runV (As := []) (rest := []) ⟨hx, hb, hml, hown, htw⟩ (w320_met l dC dI H.size h1 w1_low w1_middle w1_high _ hw) (cwV 0 htw (px_gv px_w1602 px_w1613 px_w1614 px_w41 px_g320) rfl rfl rfl (by decide +kernel) ⟨Nat.le_of_ble_eq_true rfl, Nat.le_of_ble_eq_true rfl⟩) ⟨fun a U g mk q => by obtain ⟨q0, q1, qP, qK, qD, qN⟩ := q; exact ⟨q0, q1, qP, va_K.moved (u := U) (U := U.calling g mk a) (Vm.Alike.refl U.vm) qK, qD, qN.same rfl⟩, va_recv hK hP (ci := 3) (q0 := 1) rfl rfl, fun U hU hW => ⟨rfl, by rw [hU], by rw [hU]; exact hPc, va_K.moved hW.alike hKc, hDc.weaken (fun _ _ _ _ => trivial), hN.warm hW⟩⟩ rfl rfl hl.1 rfl (lv_room (Nat.le_of_ble_eq_true rfl)) px_d319_1 ⟨(Nat.le_of_ble_eq_true rfl), (Nat.le_of_ble_eq_true rfl)⟩) hS (fun q _ h => hFc q h) hFc (fun r1 u t H1 locs ht hvm hw hB hz1 hk1 hS => ?_)
  obtain ⟨v46, v47, v48⟩ := u
  obtain ⟨hP1, hK1, hD1⟩ := hB
  rw [ht] at hP1
  have hK1 := va_K.moved hvm.symm hK1
  obtain ⟨hP, hD⟩ := va_join (wr := [(h0, .inr (3, [.long w0_low, .long w0_middle, .long w0_high])), (h2, .inr (3, [.long w2_low, .long w2_middle, .long w2_high])), (h3, .inr (3, [.long w3_low, .long w3_middle, .long w3_high]))]) (w1 := [(h1, .inr (3, [.long v46, .long v47, .long v48]))]) hP hD [1] [0, 2, 3] rfl rfl (by decide) (by decide) hk1 hFc hP1 hD1
  generalize H1 = H at hP hS ⊢
  have hP : va_P (dC, dI) vwCl [(h0, .inr (3, [.long w0_low, .long w0_middle, .long w0_high])), (h2, .inr (3, [.long w2_low, .long w2_middle, .long w2_high])), (h3, .inr (3, [.long w3_low, .long w3_middle, .long w3_high])), (h1, .inr (3, [.long v46, .long v47, .long v48]))] H := hP
  have hD : va_D A [(h0, .inr (3, [.long w0_low, .long w0_middle, .long w0_high])), (h2, .inr (3, [.long w2_low, .long w2_middle, .long w2_high])), (h3, .inr (3, [.long w3_low, .long w3_middle, .long w3_high])), (h1, .inr (3, [.long v46, .long v47, .long v48]))] := hD
  have hP := hP.sub (ws' := [(h0, .inr (3, [.long w0_low, .long w0_middle, .long w0_high])), (h1, .inr (3, [.long v46, .long v47, .long v48])), (h2, .inr (3, [.long w2_low, .long w2_middle, .long w2_high])), (h3, .inr (3, [.long w3_low, .long w3_middle, .long w3_high]))]) [0, 3, 1, 2] rfl
  have hD := hD.sub (ws' := [(h0, .inr (3, [.long w0_low, .long w0_middle, .long w0_high])), (h1, .inr (3, [.long v46, .long v47, .long v48])), (h2, .inr (3, [.long w2_low, .long w2_middle, .long w2_high])), (h3, .inr (3, [.long w3_low, .long w3_middle, .long w3_high]))]) [0, 3, 1, 2] (by decide) rfl
  refine lv_if_eq (tgt := 27) hx hb px_d319_4 (by decide) (fun c4 => ?_) (fun c4 => ?_)
  · have hw := hw.1 c4
    exact S27 w0_low w0_middle w0_high v46 v47 v48 w2_low w2_middle w2_high w3_low w3_middle w3_high H locs ls hP hD hS (lv_sub hl [0, 1, 2, 3] rfl) hw
  · have hw := hw.2 c4
    refine lv_aload_n hx hb px_d319_7 rfl (lv_at hl 2 rfl) ?_
    have hPc := hP.sub (ws' := [(h2, .inr (3, [.long w2_low, .long w2_middle, .long w2_high]))]) [2] rfl
    have hDc := hD.sub (ws' := [(h2, .inr (3, [.long w2_low, .long w2_middle, .long w2_high]))]) [2] (by decide) rfl
    have hKc := hK.sub (tys' := []) [] rfl
    have hFc := va_free (wc := [(h2, .inr (3, [.long w2_low, .long w2_middle, .long w2_high]))]) hD hS hA [2] rfl
    refine va_calli (va_runV (As := []) (rest := []) ⟨hx, hb, hml, hown, htw⟩ (w320_met l dC dI H.size h2 w2_low w2_middle w2_high _ hw) (cwV 0 htw (px_gv px_w1602 px_w1613 px_w1614 px_w41 px_g320) rfl rfl rfl (by decide +kernel) ⟨Nat.le_of_ble_eq_true rfl, Nat.le_of_ble_eq_true rfl⟩) ⟨fun a U g mk q => by obtain ⟨q0, q1, qP, qK, qD, qN⟩ := q; exact ⟨q0, q1, qP, va_K.moved (u := U) (U := U.calling g mk a) (Vm.Alike.refl U.vm) qK, qD, qN.same rfl⟩, va_recv hK hP (ci := 3) (q0 := 2) rfl rfl, fun U hU hW => ⟨rfl, by rw [hU], by rw [hU]; exact hPc, va_K.moved hW.alike hKc, hDc.weaken (fun _ _ _ _ => trivial), hN.warm hW⟩⟩ rfl rfl hl.1 rfl (lv_room (Nat.le_of_ble_eq_true rfl)) px_d319_8 ⟨(Nat.le_of_ble_eq_true rfl), (Nat.le_of_ble_eq_true rfl)⟩) hS (fun q _ h => hFc q h) hFc (fun r8 u t H1 locs ht hvm hw hB hz1 hk1 hS => ?_)
    obtain ⟨v49, v50, v51⟩ := u
    obtain ⟨hP1, hK1, hD1⟩ := hB
    rw [ht] at hP1
    have hK1 := va_K.moved hvm.symm hK1
    obtain ⟨hP, hD⟩ := va_join (wr := [(h0, .inr (3, [.long w0_low, .long w0_middle, .long w0_high])), (h1, .inr (3, [.long v46, .long v47, .long v48])), (h3, .inr (3, [.long w3_low, .long w3_middle, .long w3_high]))]) (w1 := [(h2, .inr (3, [.long v49, .long v50, .long v51]))]) hP hD [2] [0, 1, 3] rfl rfl (by decide) (by decide) hk1 hFc hP1 hD1
    generalize H1 = H at hP hS ⊢
    have hP : va_P (dC, dI) vwCl [(h0, .inr (3, [.long w0_low, .long w0_middle, .long w0_high])), (h1, .inr (3, [.long v46, .long v47, .long v48])), (h3, .inr (3, [.long w3_low, .long w3_middle, .long w3_high])), (h2, .inr (3, [.long v49, .long v50, .long v51]))] H := hP
    have hD : va_D A [(h0, .inr (3, [.long w0_low, .long w0_middle, .long w0_high])), (h1, .inr (3, [.long v46, .long v47, .long v48])), (h3, .inr (3, [.long w3_low, .long w3_middle, .long w3_high])), (h2, .inr (3, [.long v49, .long v50, .long v51]))] := hD
    have hP := hP.sub (ws' := [(h0, .inr (3, [.long w0_low, .long w0_middle, .long w0_high])), (h1, .inr (3, [.long v46, .long v47, .long v48])), (h2, .inr (3, [.long v49, .long v50, .long v51])), (h3, .inr (3, [.long w3_low, .long w3_middle, .long w3_high]))]) [0, 1, 3, 2] rfl
    have hD := hD.sub (ws' := [(h0, .inr (3, [.long w0_low, .long w0_middle, .long w0_high])), (h1, .inr (3, [.long v46, .long v47, .long v48])), (h2, .inr (3, [.long v49, .long v50, .long v51])), (h3, .inr (3, [.long w3_low, .long w3_middle, .long w3_high]))]) [0, 1, 3, 2] (by decide) rfl
    refine lv_if_eq (tgt := 27) hx hb px_d319_11 (by decide) (fun c11 => ?_) (fun c11 => ?_)
    · have hw := hw.1 c11
      exact S27 w0_low w0_middle w0_high v46 v47 v48 v49 v50 v51 w3_low w3_middle w3_high H locs ls hP hD hS (lv_sub hl [0, 1, 2, 3] rfl) hw
    · have hw := hw.2 c11
      refine lv_aload_n hx hb px_d319_14 rfl (lv_at hl 0 rfl) ?_
      refine lv_aload_n hx hb px_d319_15 rfl (lv_at hl 1 rfl) ?_
      have hPc := hP.sub (ws' := [(h1, .inr (3, [.long v46, .long v47, .long v48]))]) [1] rfl
      have hDc := hD.sub (ws' := [(h1, .inr (3, [.long v46, .long v47, .long v48]))]) [1] (by decide) rfl
      have hKc := hK.sub (tys' := []) [] rfl
      have hFc := va_free (wc := [(h1, .inr (3, [.long v46, .long v47, .long v48]))]) hD hS hA [1] rfl
      refine va_calll (va_runV (As := []) (rest := [.ref h0]) ⟨hx, hb, hml, hown, htw⟩ (w321_met l dC dI H.size h1 v46 v47 v48 _ hw) (cwV 0 htw (px_gv px_w1603 px_w1616 px_w1617 px_w41 px_g321) rfl rfl rfl (by decide +kernel) ⟨Nat.le_of_ble_eq_true rfl, Nat.le_of_ble_eq_true rfl⟩) ⟨fun a U g mk q => by obtain ⟨q0, q1, qP, qK, qD, qN⟩ := q; exact ⟨q0, q1, qP, va_K.moved (u := U) (U := U.calling g mk a) (Vm.Alike.refl U.vm) qK, qD, qN.same rfl⟩, va_recv hK hP (ci := 3) (q0 := 1) rfl rfl, fun U hU hW => ⟨rfl, by rw [hU], by rw [hU]; exact hPc, va_K.moved hW.alike hKc, hDc.weaken (fun _ _ _ _ => trivial), hN.warm hW⟩⟩ rfl rfl hl.1 rfl (lv_room (Nat.le_of_ble_eq_true rfl)) px_d319_16 ⟨(Nat.le_of_ble_eq_true rfl), (Nat.le_of_ble_eq_true rfl)⟩) hS (fun q _ h => hFc q h) hFc (fun r16 u t H1 locs ht hvm hw hB hz1 hk1 hS => ?_)
      obtain ⟨v52, v53, v54⟩ := u
      obtain ⟨hP1, hK1, hD1⟩ := hB
      rw [ht] at hP1
      have hK1 := va_K.moved hvm.symm hK1
      obtain ⟨hP, hD⟩ := va_join (wr := [(h0, .inr (3, [.long w0_low, .long w0_middle, .long w0_high])), (h2, .inr (3, [.long v49, .long v50, .long v51])), (h3, .inr (3, [.long w3_low, .long w3_middle, .long w3_high]))]) (w1 := [(h1, .inr (3, [.long v52, .long v53, .long v54]))]) hP hD [1] [0, 2, 3] rfl rfl (by decide) (by decide) hk1 hFc hP1 hD1
      generalize H1 = H at hP hS ⊢
      have hP : va_P (dC, dI) vwCl [(h0, .inr (3, [.long w0_low, .long w0_middle, .long w0_high])), (h2, .inr (3, [.long v49, .long v50, .long v51])), (h3, .inr (3, [.long w3_low, .long w3_middle, .long w3_high])), (h1, .inr (3, [.long v52, .long v53, .long v54]))] H := hP
      have hD : va_D A [(h0, .inr (3, [.long w0_low, .long w0_middle, .long w0_high])), (h2, .inr (3, [.long v49, .long v50, .long v51])), (h3, .inr (3, [.long w3_low, .long w3_middle, .long w3_high])), (h1, .inr (3, [.long v52, .long v53, .long v54]))] := hD
      have hP := hP.sub (ws' := [(h0, .inr (3, [.long w0_low, .long w0_middle, .long w0_high])), (h1, .inr (3, [.long v52, .long v53, .long v54])), (h2, .inr (3, [.long v49, .long v50, .long v51])), (h3, .inr (3, [.long w3_low, .long w3_middle, .long w3_high]))]) [0, 3, 1, 2] rfl
      have hD := hD.sub (ws' := [(h0, .inr (3, [.long w0_low, .long w0_middle, .long w0_high])), (h1, .inr (3, [.long v52, .long v53, .long v54])), (h2, .inr (3, [.long v49, .long v50, .long v51])), (h3, .inr (3, [.long w3_low, .long w3_middle, .long w3_high]))]) [0, 3, 1, 2] (by decide) rfl
      refine lv_aload_n hx hb px_d319_19 rfl (lv_at hl 2 rfl) ?_
      have hPc := hP.sub (ws' := [(h2, .inr (3, [.long v49, .long v50, .long v51]))]) [2] rfl
      have hDc := hD.sub (ws' := [(h2, .inr (3, [.long v49, .long v50, .long v51]))]) [2] (by decide) rfl
      have hKc := hK.sub (tys' := []) [] rfl
      have hFc := va_free (wc := [(h2, .inr (3, [.long v49, .long v50, .long v51]))]) hD hS hA [2] rfl
      refine va_calll (va_runV (As := []) (rest := [.long r16, .ref h0]) ⟨hx, hb, hml, hown, htw⟩ (w321_met l dC dI H.size h2 v49 v50 v51 _ hw) (cwV 0 htw (px_gv px_w1603 px_w1616 px_w1617 px_w41 px_g321) rfl rfl rfl (by decide +kernel) ⟨Nat.le_of_ble_eq_true rfl, Nat.le_of_ble_eq_true rfl⟩) ⟨fun a U g mk q => by obtain ⟨q0, q1, qP, qK, qD, qN⟩ := q; exact ⟨q0, q1, qP, va_K.moved (u := U) (U := U.calling g mk a) (Vm.Alike.refl U.vm) qK, qD, qN.same rfl⟩, va_recv hK hP (ci := 3) (q0 := 2) rfl rfl, fun U hU hW => ⟨rfl, by rw [hU], by rw [hU]; exact hPc, va_K.moved hW.alike hKc, hDc.weaken (fun _ _ _ _ => trivial), hN.warm hW⟩⟩ rfl rfl hl.1 rfl (lv_room (Nat.le_of_ble_eq_true rfl)) px_d319_20 ⟨(Nat.le_of_ble_eq_true rfl), (Nat.le_of_ble_eq_true rfl)⟩) hS (fun q _ h => hFc q h) hFc (fun r20 u t H1 locs ht hvm hw hB hz1 hk1 hS => ?_)
      obtain ⟨v55, v56, v57⟩ := u
      obtain ⟨hP1, hK1, hD1⟩ := hB
      rw [ht] at hP1
      have hK1 := va_K.moved hvm.symm hK1
      obtain ⟨hP, hD⟩ := va_join (wr := [(h0, .inr (3, [.long w0_low, .long w0_middle, .long w0_high])), (h1, .inr (3, [.long v52, .long v53, .long v54])), (h3, .inr (3, [.long w3_low, .long w3_middle, .long w3_high]))]) (w1 := [(h2, .inr (3, [.long v55, .long v56, .long v57]))]) hP hD [2] [0, 1, 3] rfl rfl (by decide) (by decide) hk1 hFc hP1 hD1
      generalize H1 = H at hP hS ⊢
      have hP : va_P (dC, dI) vwCl [(h0, .inr (3, [.long w0_low, .long w0_middle, .long w0_high])), (h1, .inr (3, [.long v52, .long v53, .long v54])), (h3, .inr (3, [.long w3_low, .long w3_middle, .long w3_high])), (h2, .inr (3, [.long v55, .long v56, .long v57]))] H := hP
      have hD : va_D A [(h0, .inr (3, [.long w0_low, .long w0_middle, .long w0_high])), (h1, .inr (3, [.long v52, .long v53, .long v54])), (h3, .inr (3, [.long w3_low, .long w3_middle, .long w3_high])), (h2, .inr (3, [.long v55, .long v56, .long v57]))] := hD
      have hP := hP.sub (ws' := [(h0, .inr (3, [.long w0_low, .long w0_middle, .long w0_high])), (h1, .inr (3, [.long v52, .long v53, .long v54])), (h2, .inr (3, [.long v55, .long v56, .long v57])), (h3, .inr (3, [.long w3_low, .long w3_middle, .long w3_high]))]) [0, 1, 3, 2] rfl
      have hD := hD.sub (ws' := [(h0, .inr (3, [.long w0_low, .long w0_middle, .long w0_high])), (h1, .inr (3, [.long v52, .long v53, .long v54])), (h2, .inr (3, [.long v55, .long v56, .long v57])), (h3, .inr (3, [.long w3_low, .long w3_middle, .long w3_high]))]) [0, 1, 3, 2] (by decide) rfl
      have hPc := hP.sub (ws' := [(h0, .inr (3, [.long w0_low, .long w0_middle, .long w0_high]))]) [0] rfl
      have hDc := hD.sub (ws' := [(h0, .inr (3, [.long w0_low, .long w0_middle, .long w0_high]))]) [0] (by decide) rfl
      have hKc := hK.sub (tys' := []) [] rfl
      have hFc := va_free (wc := [(h0, .inr (3, [.long w0_low, .long w0_middle, .long w0_high]))]) hD hS hA [0] rfl
      refine va_callv (va_runV (As := [.long r16, .long r20]) (rest := []) ⟨hx, hb, hml, hown, htw⟩ (w322_met l dC dI H.size h0 r16 r20 w0_low w0_middle w0_high _ hw) (cwV 2 htw (px_gv px_w1604 px_w1619 px_w1620 px_w41 px_g322) rfl rfl rfl (by decide +kernel) ⟨Nat.le_of_ble_eq_true rfl, Nat.le_of_ble_eq_true rfl⟩) ⟨fun a U g mk q => by obtain ⟨q0, q1, qP, qK, qD, qN⟩ := q; exact ⟨q0, q1, qP, va_K.moved (u := U) (U := U.calling g mk a) (Vm.Alike.refl U.vm) qK, qD, qN.same rfl⟩, va_recv hK hP (ci := 3) (q0 := 0) rfl rfl, fun U hU hW => ⟨rfl, by rw [hU], by rw [hU]; exact hPc, va_K.moved hW.alike hKc, hDc.weaken (fun _ _ _ _ => trivial), hN.warm hW⟩⟩ rfl rfl hl.1 rfl (lv_room (Nat.le_of_ble_eq_true rfl)) px_d319_23 ⟨(Nat.le_of_ble_eq_true rfl), (Nat.le_of_ble_eq_true rfl)⟩) hS (fun q _ h => hFc q h) hFc (fun u t H1 locs ht hvm hw hB hz1 hk1 hS => ?_)
      obtain ⟨v58, v59, v60⟩ := u
      obtain ⟨hP1, hK1, hD1⟩ := hB
      rw [ht] at hP1
      have hK1 := va_K.moved hvm.symm hK1
      obtain ⟨hP, hD⟩ := va_join (wr := [(h1, .inr (3, [.long v52, .long v53, .long v54])), (h2, .inr (3, [.long v55, .long v56, .long v57])), (h3, .inr (3, [.long w3_low, .long w3_middle, .long w3_high]))]) (w1 := [(h0, .inr (3, [.long v58, .long v59, .long v60]))]) hP hD [0] [1, 2, 3] rfl rfl (by decide) (by decide) hk1 hFc hP1 hD1
      generalize H1 = H at hP hS ⊢
      have hP : va_P (dC, dI) vwCl [(h1, .inr (3, [.long v52, .long v53, .long v54])), (h2, .inr (3, [.long v55, .long v56, .long v57])), (h3, .inr (3, [.long w3_low, .long w3_middle, .long w3_high])), (h0, .inr (3, [.long v58, .long v59, .long v60]))] H := hP
      have hD : va_D A [(h1, .inr (3, [.long v52, .long v53, .long v54])), (h2, .inr (3, [.long v55, .long v56, .long v57])), (h3, .inr (3, [.long w3_low, .long w3_middle, .long w3_high])), (h0, .inr (3, [.long v58, .long v59, .long v60]))] := hD
      have hP := hP.sub (ws' := [(h0, .inr (3, [.long v58, .long v59, .long v60])), (h1, .inr (3, [.long v52, .long v53, .long v54])), (h2, .inr (3, [.long v55, .long v56, .long v57])), (h3, .inr (3, [.long w3_low, .long w3_middle, .long w3_high]))]) [3, 0, 1, 2] rfl
      have hD := hD.sub (ws' := [(h0, .inr (3, [.long v58, .long v59, .long v60])), (h1, .inr (3, [.long v52, .long v53, .long v54])), (h2, .inr (3, [.long v55, .long v56, .long v57])), (h3, .inr (3, [.long w3_low, .long w3_middle, .long w3_high]))]) [3, 0, 1, 2] (by decide) rfl
      rw [← hQ]
      exact W.vret hx hb hr (fun t ht hW => ⟨⟨(v58, v59, v60, v52, v53, v54, v55, v56, v57, w3_low, w3_middle, w3_high), rfl, hw, by rw [ht]; exact hP, va_K.moved hW.alike hK, hD⟩, hS.F ht⟩) hS.2.2 px_d319_26

