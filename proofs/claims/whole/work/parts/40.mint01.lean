/-! MatroidDeskModel.dualRank(II)I -/
def w73_wp (post : Int32 → (Nat → Int32) → (Nat → Int32) → (Nat → Int32) → (Nat → Int32) → (Nat → Int32) → Prop) (a1x : Int32) (a2x : Int32) (iv : Nat → Int32) (g_elements : Nat → Int32) (g_ranks : Nat → Int32) (g_rankOf : Nat → Int32) (g_sizes : Nat → Int32) : Prop := vp_in a2x 4096 ∧ (vp_in a1x 26 ∧ (w71_wp (fun r17 v1 v2 => w70_wp (fun r24 v3 v4 => post (((g_sizes (Int32.toNatClampNeg a2x)) - (g_ranks (Int32.toNatClampNeg a1x))) + r24) v3 v2 g_ranks v4 g_sizes) a1x (r17 &&& (a2x ^^^ (-1))) v1 g_rankOf) a1x iv g_elements))
set_option maxHeartbeats 8000000 in
set_option maxRecDepth 100000 in
theorem w73_met (l : Launch) (dC : Nat → ClassId) (dI : Nat → Nat → Nat) (sz : Nat) (h0 : Nat) (rf : Nat → Nat) (c_elements : ClassId) (c_ranks : ClassId) (c_rankOf : ClassId) (c_sizes : ClassId) (a1x : Int32) (a2x : Int32) (iv : Nat → Int32) (g_elements : Nat → Int32) (g_ranks : Nat → Int32) (g_rankOf : Nat → Int32) (g_sizes : Nat → Int32) (post : Int32 → (Nat → Int32) → (Nat → Int32) → (Nat → Int32) → (Nat → Int32) → (Nat → Int32) → Prop) (hw : w73_wp post a1x a2x iv g_elements g_ranks g_rankOf g_sizes) : Met l px_y73 px_s73 ({ frames := 1, cells := 0, slots := 0, locals := 22 }) (va_Pc [.ref h0, .int a1x, .int a2x] (fun U => U.heap.size = sz ∧ va_P (dC, dI) vwCl [(h0, .inr (8, px_mf rf iv)), (rf 19, .inl (c_elements, 26, .inl g_elements)), (rf 21, .inl (c_ranks, 26, .inl g_ranks)), (rf 25, .inl (c_rankOf, 106496, .inl g_rankOf)), (rf 28, .inl (c_sizes, 4096, .inl g_sizes))] U.heap ∧ va_K (dC, dI) vwCl [(c_elements, .int), (c_ranks, .int), (c_rankOf, .byte), (c_sizes, .int)] U ∧ va_D (fun _ => True) [(h0, .inr (8, px_mf rf iv)), (rf 19, .inl (c_elements, 26, .inl g_elements)), (rf 21, .inl (c_ranks, 26, .inl g_ranks)), (rf 25, .inl (c_rankOf, 106496, .inl g_rankOf)), (rf 28, .inl (c_sizes, 4096, .inl g_sizes))] ∧ px_N U)) (va_Qi (fun (r : Int32) (u : (Nat → Int32) × (Nat → Int32) × (Nat → Int32) × (Nat → Int32) × (Nat → Int32)) => post r u.1 u.2.1 u.2.2.1 u.2.2.2.1 u.2.2.2.2) (fun (u : (Nat → Int32) × (Nat → Int32) × (Nat → Int32) × (Nat → Int32) × (Nat → Int32)) (t : State) => va_P (dC, dI) vwCl [(h0, .inr (8, px_mf rf u.1)), (rf 19, .inl (c_elements, 26, .inl u.2.1)), (rf 21, .inl (c_ranks, 26, .inl u.2.2.1)), (rf 25, .inl (c_rankOf, 106496, .inl u.2.2.2.1)), (rf 28, .inl (c_sizes, 4096, .inl u.2.2.2.2))] t.heap ∧ va_K (dC, dI) vwCl [(c_elements, .int), (c_ranks, .int), (c_rankOf, .byte), (c_sizes, .int)] t ∧ va_D (va_A [(h0, .inr (8, px_mf rf iv)), (rf 19, .inl (c_elements, 26, .inl g_elements)), (rf 21, .inl (c_ranks, 26, .inl g_ranks)), (rf 25, .inl (c_rankOf, 106496, .inl g_rankOf)), (rf 28, .inl (c_sizes, 4096, .inl g_sizes))] sz) [(h0, .inr (8, px_mf rf u.1)), (rf 19, .inl (c_elements, 26, .inl u.2.1)), (rf 21, .inl (c_ranks, 26, .inl u.2.2.1)), (rf 25, .inl (c_rankOf, 106496, .inl u.2.2.2.1)), (rf 28, .inl (c_sizes, 4096, .inl u.2.2.2.2))]) (va_A [(h0, .inr (8, px_mf rf iv)), (rf 19, .inl (c_elements, 26, .inl g_elements)), (rf 21, .inl (c_ranks, 26, .inl g_ranks)), (rf 25, .inl (c_rankOf, 106496, .inl g_rankOf)), (rf 28, .inl (c_sizes, 4096, .inl g_sizes))] sz)) 0 0 (va_A [(h0, .inr (8, px_mf rf iv)), (rf 19, .inl (c_elements, 26, .inl g_elements)), (rf 21, .inl (c_ranks, 26, .inl g_ranks)), (rf 25, .inl (c_rankOf, 106496, .inl g_rankOf)), (rf 28, .inl (c_sizes, 4096, .inl g_sizes))] sz) := by
  refine Met.ofW (cc := prog_15_method_28_code) (maxL := 3) (ret := (some .int)) (by decide) rfl ?_
  intro p e s m args below meth c s₁ B hml hv
  obtain ⟨rfl, hsz, hP, hK, hD0, hN⟩ := hv
  have hx := B.exec
  have hb := B.bytes
  have hr := B.returns
  have htw : ∀ w ∈ px_all, w.before _ s = true := fun w h => atoms_spec (ws := px_s73) B.pre w (List.mem_cons_of_mem _ h)
  have hown : s.vm.findClass "MatroidDeskModel" = some m.cls := findClass_of_methodNamed B.named
  have hlocks := B.notSynchronized
  subst hsz
  have hD := hD0.self (sz := s.heap.size)
  generalize hAe : va_A [(h0, .inr (8, px_mf rf iv)), (rf 19, .inl (c_elements, 26, .inl g_elements)), (rf 21, .inl (c_ranks, 26, .inl g_ranks)), (rf 25, .inl (c_rankOf, 106496, .inl g_rankOf)), (rf 28, .inl (c_sizes, 4096, .inl g_sizes))] s.heap.size = A at hD ⊢
  have hA : ∀ q : Nat, s.heap.size ≤ q → A q := fun q h => by rw [← hAe]; exact Or.inr h
  have hS : va_S A s.heap s.heap [] := va_S.rf
  have hP : va_P (dC, dI) vwCl [(h0, .inr (8, px_mf rf iv)), (rf 19, .inl (c_elements, 26, .inl g_elements)), (rf 21, .inl (c_ranks, 26, .inl g_ranks)), (rf 25, .inl (c_rankOf, 106496, .inl g_rankOf)), (rf 28, .inl (c_sizes, 4096, .inl g_sizes))] s.heap := hP
  have hl := lv_entry ([.ref h0, .int a1x, .int a2x]) (n := 3) (Nat.le_of_ble_eq_true rfl)
  rw [lg_entry_eq]
  generalize (lg_sl ([.ref h0, .int a1x, .int a2x]) ++ List.replicate (3 - (lg_sl ([.ref h0, .int a1x, .int a2x])).length) Slot.unset).toArray = ls at hl ⊢
  have hl : lv_has ls 3 [(0, .ref h0), (1, .int a1x), (2, .int a2x)] := hl
  generalize hQ : MQ _ _ _ _ _ _ _ = Q
  unfold w73_wp at hw
  have hS0 := hS
  obtain ⟨H, hH9⟩ : ∃ z, z = s.heap := ⟨_, rfl⟩
  have hP : va_P (dC, dI) vwCl [(h0, .inr (8, px_mf rf iv)), (rf 19, .inl (c_elements, 26, .inl g_elements)), (rf 21, .inl (c_ranks, 26, .inl g_ranks)), (rf 25, .inl (c_rankOf, 106496, .inl g_rankOf)), (rf 28, .inl (c_sizes, 4096, .inl g_sizes))] H := by rw [hH9]; exact hP
  obtain ⟨locs, hlo9⟩ : ∃ z : List Loc, z = [] := ⟨_, rfl⟩
  have hS : va_S A s.heap H locs := by rw [hH9, hlo9]; exact hS
  suffices hG : W p l e (headSpec px_s73 ({ frames := 1, cells := 0, slots := 0, locals := 22 })).room s m ([.ref h0, .int a1x, .int a2x]).toArray below meth c H locs 0 0 Q (F0 m 0 ls []) by rw [hH9, hlo9] at hG; exact hG
  refine lv_aload_n hx hb px_d73_0 rfl (lv_at hl 0 rfl) ?_
  refine va_get (D := (dC, dI)) (ci := 8) (v := .ref (rf 28)) (C := "MatroidDeskModel") (T := px_T8) (N := 53) hx hb htw px_in8 hown hK hP 0 rfl rfl 28 (by decide) (htw _ px_w513) (fun _ h9 => h9) rfl px_d73_1 ?_
  refine lv_iload_n hx hb px_d73_4 rfl (lv_at hl 2 rfl) ?_
  obtain ⟨hi5, hw⟩ := hw
  refine va_iald hx hb hK hP 4 3 rfl rfl hi5 px_d73_5 ?_
  refine lv_aload_n hx hb px_d73_6 rfl (lv_at hl 0 rfl) ?_
  refine va_get (D := (dC, dI)) (ci := 8) (v := .ref (rf 21)) (C := "MatroidDeskModel") (T := px_T8) (N := 53) hx hb htw px_in8 hown hK hP 0 rfl rfl 21 (by decide) (htw _ px_w504) (fun _ h9 => h9) rfl px_d73_7 ?_
  refine lv_iload_n hx hb px_d73_10 rfl (lv_at hl 1 rfl) ?_
  obtain ⟨hi11, hw⟩ := hw
  refine va_iald hx hb hK hP 2 1 rfl rfl hi11 px_d73_11 ?_
  refine lv_isub hx hb px_d73_12 ?_
  refine lv_aload_n hx hb px_d73_13 rfl (lv_at hl 0 rfl) ?_
  refine lv_iload_n hx hb px_d73_14 rfl (lv_at hl 1 rfl) ?_
  refine lv_aload_n hx hb px_d73_15 rfl (lv_at hl 0 rfl) ?_
  refine lv_iload_n hx hb px_d73_16 rfl (lv_at hl 1 rfl) ?_
  have hPc := hP.sub (ws' := [(h0, .inr (8, px_mf rf iv)), (rf 19, .inl (c_elements, 26, .inl g_elements))]) [0, 1] rfl
  have hDc := hD.sub (ws' := [(h0, .inr (8, px_mf rf iv)), (rf 19, .inl (c_elements, 26, .inl g_elements))]) [0, 1] (by decide) rfl
  have hKc := hK.sub (tys' := [(c_elements, .int)]) [0] rfl
  have hFc := va_free (wc := [(h0, .inr (8, px_mf rf iv)), (rf 19, .inl (c_elements, 26, .inl g_elements))]) hD hS hA [0, 1] rfl
  refine va_calli (va_runV (As := [.int a1x]) (rest := [.int a1x, .ref h0, .int ((g_sizes (Int32.toNatClampNeg a2x)) - (g_ranks (Int32.toNatClampNeg a1x)))]) ⟨hx, hb, hml, hown, htw⟩ (w71_met l dC dI H.size h0 rf c_elements a1x iv g_elements _ hw) (cwV 1 htw (px_gv px_w565 px_w556 px_w557 px_w94 px_g71) rfl rfl rfl (by decide +kernel) ⟨Nat.le_of_ble_eq_true rfl, Nat.le_of_ble_eq_true rfl⟩) ⟨fun a U g mk q => by obtain ⟨q0, q1, qP, qK, qD, qN⟩ := q; exact ⟨q0, q1, qP, va_K.moved (u := U) (U := U.calling g mk a) (Vm.Alike.refl U.vm) qK, qD, qN.same rfl⟩, va_recv hK hP (ci := 8) (q0 := 0) rfl rfl, fun U hU hW => ⟨rfl, by rw [hU], by rw [hU]; exact hPc, va_K.moved hW.alike hKc, hDc.weaken (fun _ _ _ _ => trivial), hN.warm hW⟩⟩ rfl rfl hl.1 rfl (lv_room (Nat.le_of_ble_eq_true rfl)) px_d73_17 ⟨(Nat.le_of_ble_eq_true rfl), (Nat.le_of_ble_eq_true rfl)⟩) hS (fun q _ h => hFc q h) hFc (fun r17 u t H1 locs ht hvm hw hB hz1 hk1 hS => ?_)
  obtain ⟨v1, v2⟩ := u
  obtain ⟨hP1, hK1, hD1⟩ := hB
  rw [ht] at hP1
  have hK1 := va_K.moved hvm.symm hK1
  obtain ⟨hP, hD⟩ := va_join (wr := [(rf 21, .inl (c_ranks, 26, .inl g_ranks)), (rf 25, .inl (c_rankOf, 106496, .inl g_rankOf)), (rf 28, .inl (c_sizes, 4096, .inl g_sizes))]) (w1 := [(h0, .inr (8, px_mf rf v1)), (rf 19, .inl (c_elements, 26, .inl v2))]) hP hD [0, 1] [2, 3, 4] rfl rfl (by decide) (by decide) hk1 hFc hP1 hD1
  generalize H1 = H at hP hS ⊢
  have hP : va_P (dC, dI) vwCl [(rf 21, .inl (c_ranks, 26, .inl g_ranks)), (rf 25, .inl (c_rankOf, 106496, .inl g_rankOf)), (rf 28, .inl (c_sizes, 4096, .inl g_sizes)), (h0, .inr (8, px_mf rf v1)), (rf 19, .inl (c_elements, 26, .inl v2))] H := hP
  have hD : va_D A [(rf 21, .inl (c_ranks, 26, .inl g_ranks)), (rf 25, .inl (c_rankOf, 106496, .inl g_rankOf)), (rf 28, .inl (c_sizes, 4096, .inl g_sizes)), (h0, .inr (8, px_mf rf v1)), (rf 19, .inl (c_elements, 26, .inl v2))] := hD
  have hP := hP.sub (ws' := [(h0, .inr (8, px_mf rf v1)), (rf 19, .inl (c_elements, 26, .inl v2)), (rf 21, .inl (c_ranks, 26, .inl g_ranks)), (rf 25, .inl (c_rankOf, 106496, .inl g_rankOf)), (rf 28, .inl (c_sizes, 4096, .inl g_sizes))]) [3, 4, 0, 1, 2] rfl
  have hD := hD.sub (ws' := [(h0, .inr (8, px_mf rf v1)), (rf 19, .inl (c_elements, 26, .inl v2)), (rf 21, .inl (c_ranks, 26, .inl g_ranks)), (rf 25, .inl (c_rankOf, 106496, .inl g_rankOf)), (rf 28, .inl (c_sizes, 4096, .inl g_sizes))]) [3, 4, 0, 1, 2] (by decide) rfl
  refine lv_iload_n hx hb px_d73_20 rfl (lv_at hl 2 rfl) ?_
  refine lv_iconst (v := (-1)) hx hb px_d73_21 (by decide) ?_
  refine lv_ixor hx hb px_d73_22 ?_
  refine lv_iand hx hb px_d73_23 ?_
  have hPc := hP.sub (ws' := [(h0, .inr (8, px_mf rf v1)), (rf 25, .inl (c_rankOf, 106496, .inl g_rankOf))]) [0, 3] rfl
  have hDc := hD.sub (ws' := [(h0, .inr (8, px_mf rf v1)), (rf 25, .inl (c_rankOf, 106496, .inl g_rankOf))]) [0, 3] (by decide) rfl
  have hKc := hK.sub (tys' := [(c_rankOf, .byte)]) [2] rfl
  have hFc := va_free (wc := [(h0, .inr (8, px_mf rf v1)), (rf 25, .inl (c_rankOf, 106496, .inl g_rankOf))]) hD hS hA [0, 3] rfl
  refine va_calli (va_runV (As := [.int a1x, .int (r17 &&& (a2x ^^^ (-1)))]) (rest := [.int ((g_sizes (Int32.toNatClampNeg a2x)) - (g_ranks (Int32.toNatClampNeg a1x)))]) ⟨hx, hb, hml, hown, htw⟩ (w70_met l dC dI H.size h0 rf c_rankOf a1x (r17 &&& (a2x ^^^ (-1))) v1 g_rankOf _ hw) (cwV 2 htw (px_gv px_w561 px_w553 px_w554 px_w94 px_g70) rfl rfl rfl (by decide +kernel) ⟨Nat.le_of_ble_eq_true rfl, Nat.le_of_ble_eq_true rfl⟩) ⟨fun a U g mk q => by obtain ⟨q0, q1, qP, qK, qD, qN⟩ := q; exact ⟨q0, q1, qP, va_K.moved (u := U) (U := U.calling g mk a) (Vm.Alike.refl U.vm) qK, qD, qN.same rfl⟩, va_recv hK hP (ci := 8) (q0 := 0) rfl rfl, fun U hU hW => ⟨rfl, by rw [hU], by rw [hU]; exact hPc, va_K.moved hW.alike hKc, hDc.weaken (fun _ _ _ _ => trivial), hN.warm hW⟩⟩ rfl rfl hl.1 rfl (lv_room (Nat.le_of_ble_eq_true rfl)) px_d73_24 ⟨(Nat.le_of_ble_eq_true rfl), (Nat.le_of_ble_eq_true rfl)⟩) hS (fun q _ h => hFc q h) hFc (fun r24 u t H1 locs ht hvm hw hB hz1 hk1 hS => ?_)
  obtain ⟨v3, v4⟩ := u
  obtain ⟨hP1, hK1, hD1⟩ := hB
  rw [ht] at hP1
  have hK1 := va_K.moved hvm.symm hK1
  obtain ⟨hP, hD⟩ := va_join (wr := [(rf 19, .inl (c_elements, 26, .inl v2)), (rf 21, .inl (c_ranks, 26, .inl g_ranks)), (rf 28, .inl (c_sizes, 4096, .inl g_sizes))]) (w1 := [(h0, .inr (8, px_mf rf v3)), (rf 25, .inl (c_rankOf, 106496, .inl v4))]) hP hD [0, 3] [1, 2, 4] rfl rfl (by decide) (by decide) hk1 hFc hP1 hD1
  generalize H1 = H at hP hS ⊢
  have hP : va_P (dC, dI) vwCl [(rf 19, .inl (c_elements, 26, .inl v2)), (rf 21, .inl (c_ranks, 26, .inl g_ranks)), (rf 28, .inl (c_sizes, 4096, .inl g_sizes)), (h0, .inr (8, px_mf rf v3)), (rf 25, .inl (c_rankOf, 106496, .inl v4))] H := hP
  have hD : va_D A [(rf 19, .inl (c_elements, 26, .inl v2)), (rf 21, .inl (c_ranks, 26, .inl g_ranks)), (rf 28, .inl (c_sizes, 4096, .inl g_sizes)), (h0, .inr (8, px_mf rf v3)), (rf 25, .inl (c_rankOf, 106496, .inl v4))] := hD
  have hP := hP.sub (ws' := [(h0, .inr (8, px_mf rf v3)), (rf 19, .inl (c_elements, 26, .inl v2)), (rf 21, .inl (c_ranks, 26, .inl g_ranks)), (rf 25, .inl (c_rankOf, 106496, .inl v4)), (rf 28, .inl (c_sizes, 4096, .inl g_sizes))]) [3, 0, 1, 4, 2] rfl
  have hD := hD.sub (ws' := [(h0, .inr (8, px_mf rf v3)), (rf 19, .inl (c_elements, 26, .inl v2)), (rf 21, .inl (c_ranks, 26, .inl g_ranks)), (rf 25, .inl (c_rankOf, 106496, .inl v4)), (rf 28, .inl (c_sizes, 4096, .inl g_sizes))]) [3, 0, 1, 4, 2] (by decide) rfl
  refine lv_iadd hx hb px_d73_27 ?_
  rw [← hQ]
  exact W.iret (v := ((g_sizes (Int32.toNatClampNeg a2x)) - (g_ranks (Int32.toNatClampNeg a1x))) + r24) hx hb hr (fun t ht hW => ⟨⟨((g_sizes (Int32.toNatClampNeg a2x)) - (g_ranks (Int32.toNatClampNeg a1x))) + r24, (v3, v2, g_ranks, v4, g_sizes), rfl, hw, by rw [ht]; exact hP, va_K.moved hW.alike hK, hD⟩, hS.F ht⟩) hS.2.2 px_d73_28

/-! MatroidDeskModel.isCircuit(IIZ)Z -/
def w74_L116 (post : Int32 → (Nat → Int32) → (Nat → Int32) → (Nat → Int32) → (Nat → Int32) → (Nat → Int32) → Prop) (x1 : Int32) (x2 : Int32) (x3 : Int32) (x4 : Int32) (x5 : Int32) (iv : Nat → Int32) (g_elements : Nat → Int32) (g_ranks : Nat → Int32) (g_rankOf : Nat → Int32) (g_sizes : Nat → Int32) : Prop := narrow .boolean (.int x4) = .int x4 ∧ post x4 iv g_elements g_ranks g_rankOf g_sizes
def w74_L110 (K38 : Int32 → Int32 → Int32 → Int32 → Int32 → (Nat → Int32) → (Nat → Int32) → (Nat → Int32) → (Nat → Int32) → (Nat → Int32) → Prop) (post : Int32 → (Nat → Int32) → (Nat → Int32) → (Nat → Int32) → (Nat → Int32) → (Nat → Int32) → Prop) (x1 : Int32) (x2 : Int32) (x3 : Int32) (x4 : Int32) (x5 : Int32) (iv : Nat → Int32) (g_elements : Nat → Int32) (g_ranks : Nat → Int32) (g_rankOf : Nat → Int32) (g_sizes : Nat → Int32) : Prop := ∀ z1 : Int32, z1 = x5 + 1 → K38 x1 x2 x3 x4 z1 iv g_elements g_ranks g_rankOf g_sizes
def w74_L108 (K38 : Int32 → Int32 → Int32 → Int32 → Int32 → (Nat → Int32) → (Nat → Int32) → (Nat → Int32) → (Nat → Int32) → (Nat → Int32) → Prop) (post : Int32 → (Nat → Int32) → (Nat → Int32) → (Nat → Int32) → (Nat → Int32) → (Nat → Int32) → Prop) (x1 : Int32) (x2 : Int32) (x3 : Int32) (x4 : Int32) (x5 : Int32) (x6 : Int32) (y0 : Int32) (iv : Nat → Int32) (g_elements : Nat → Int32) (g_ranks : Nat → Int32) (g_rankOf : Nat → Int32) (g_sizes : Nat → Int32) : Prop := w74_L110 K38 post x1 x2 x3 y0 x5 iv g_elements g_ranks g_rankOf g_sizes
def w74_L93 (K38 : Int32 → Int32 → Int32 → Int32 → Int32 → (Nat → Int32) → (Nat → Int32) → (Nat → Int32) → (Nat → Int32) → (Nat → Int32) → Prop) (post : Int32 → (Nat → Int32) → (Nat → Int32) → (Nat → Int32) → (Nat → Int32) → (Nat → Int32) → Prop) (x1 : Int32) (x2 : Int32) (x3 : Int32) (x4 : Int32) (x5 : Int32) (x6 : Int32) (y0 : Int32) (iv : Nat → Int32) (g_elements : Nat → Int32) (g_ranks : Nat → Int32) (g_rankOf : Nat → Int32) (g_sizes : Nat → Int32) : Prop := vp_in x6 4096 ∧ ((¬ y0 = (g_sizes (Int32.toNatClampNeg x6)) → w74_L108 K38 post x1 x2 x3 x4 x5 x6 0 iv g_elements g_ranks g_rankOf g_sizes) ∧ (y0 = (g_sizes (Int32.toNatClampNeg x6)) → w74_L108 K38 post x1 x2 x3 x4 x5 x6 1 iv g_elements g_ranks g_rankOf g_sizes))
def w74_L38 (post : Int32 → (Nat → Int32) → (Nat → Int32) → (Nat → Int32) → (Nat → Int32) → (Nat → Int32) → Prop) : Nat → Int32 → Int32 → Int32 → Int32 → Int32 → (Nat → Int32) → (Nat → Int32) → (Nat → Int32) → (Nat → Int32) → (Nat → Int32) → Prop
  | 0 => fun _ _ _ _ _ _ _ _ _ _ => False
  | k + 1 => fun x1 x2 x3 x4 x5 iv g_elements g_ranks g_rankOf g_sizes => vp_in x1 26 ∧ (((g_elements (Int32.toNatClampNeg x1)) ≤ x5 → w74_L116 post x1 x2 x3 x4 x5 iv g_elements g_ranks g_rankOf g_sizes) ∧ (¬ (g_elements (Int32.toNatClampNeg x1)) ≤ x5 → (x4 = 0 → w74_L116 post x1 x2 x3 x4 x5 iv g_elements g_ranks g_rankOf g_sizes) ∧ (¬ x4 = 0 → (¬ ((x2 >>> (x5 &&& 31)) &&& 1) = 1 → w74_L110 (w74_L38 post k) post x1 x2 x3 x4 x5 iv g_elements g_ranks g_rankOf g_sizes) ∧ (((x2 >>> (x5 &&& 31)) &&& 1) = 1 → ∀ z2 : Int32, z2 = x2 ^^^ (1 <<< (x5 &&& 31)) → (x3 = 0 → w70_wp (fun r90 v3 v4 => w74_L93 (w74_L38 post k) post x1 x2 x3 x4 x5 z2 r90 v3 g_elements g_ranks v4 g_sizes) x1 z2 iv g_rankOf) ∧ (¬ x3 = 0 → w73_wp (fun r80 v5 v6 v7 v8 v9 => w74_L93 (w74_L38 post k) post x1 x2 x3 x4 x5 z2 r80 v5 v6 v7 v8 v9) x1 z2 iv g_elements g_ranks g_rankOf g_sizes)))))
def w74_L33 (post : Int32 → (Nat → Int32) → (Nat → Int32) → (Nat → Int32) → (Nat → Int32) → (Nat → Int32) → Prop) (x1 : Int32) (x2 : Int32) (x3 : Int32) (y0 : Int32) (iv : Nat → Int32) (g_elements : Nat → Int32) (g_ranks : Nat → Int32) (g_rankOf : Nat → Int32) (g_sizes : Nat → Int32) : Prop := ∃ j38, w74_L38 post j38 x1 x2 x3 y0 0 iv g_elements g_ranks g_rankOf g_sizes
def w74_L19 (post : Int32 → (Nat → Int32) → (Nat → Int32) → (Nat → Int32) → (Nat → Int32) → (Nat → Int32) → Prop) (x1 : Int32) (x2 : Int32) (x3 : Int32) (y0 : Int32) (iv : Nat → Int32) (g_elements : Nat → Int32) (g_ranks : Nat → Int32) (g_rankOf : Nat → Int32) (g_sizes : Nat → Int32) : Prop := vp_in x2 4096 ∧ (((g_sizes (Int32.toNatClampNeg x2)) ≤ y0 → w74_L33 post x1 x2 x3 0 iv g_elements g_ranks g_rankOf g_sizes) ∧ (¬ (g_sizes (Int32.toNatClampNeg x2)) ≤ y0 → w74_L33 post x1 x2 x3 1 iv g_elements g_ranks g_rankOf g_sizes))
def w74_wp (post : Int32 → (Nat → Int32) → (Nat → Int32) → (Nat → Int32) → (Nat → Int32) → (Nat → Int32) → Prop) (a1x : Int32) (a2x : Int32) (a3x : Int32) (iv : Nat → Int32) (g_elements : Nat → Int32) (g_ranks : Nat → Int32) (g_rankOf : Nat → Int32) (g_sizes : Nat → Int32) : Prop := (a3x = 0 → w70_wp (fun r16 v10 v11 => w74_L19 post a1x a2x a3x r16 v10 g_elements g_ranks v11 g_sizes) a1x a2x iv g_rankOf) ∧ (¬ a3x = 0 → w73_wp (fun r7 v12 v13 v14 v15 v16 => w74_L19 post a1x a2x a3x r7 v12 v13 v14 v15 v16) a1x a2x iv g_elements g_ranks g_rankOf g_sizes)
set_option maxHeartbeats 8000000 in
set_option maxRecDepth 100000 in
theorem w74_met (l : Launch) (dC : Nat → ClassId) (dI : Nat → Nat → Nat) (sz : Nat) (h0 : Nat) (rf : Nat → Nat) (c_elements : ClassId) (c_ranks : ClassId) (c_rankOf : ClassId) (c_sizes : ClassId) (a1x : Int32) (a2x : Int32) (a3x : Int32) (iv : Nat → Int32) (g_elements : Nat → Int32) (g_ranks : Nat → Int32) (g_rankOf : Nat → Int32) (g_sizes : Nat → Int32) (post : Int32 → (Nat → Int32) → (Nat → Int32) → (Nat → Int32) → (Nat → Int32) → (Nat → Int32) → Prop) (hw : w74_wp post a1x a2x a3x iv g_elements g_ranks g_rankOf g_sizes) : Met l px_y74 px_s74 ({ frames := 2, cells := 0, slots := 0, locals := 44 }) (va_Pc [.ref h0, .int a1x, .int a2x, .int a3x] (fun U => U.heap.size = sz ∧ va_P (dC, dI) vwCl [(h0, .inr (8, px_mf rf iv)), (rf 19, .inl (c_elements, 26, .inl g_elements)), (rf 21, .inl (c_ranks, 26, .inl g_ranks)), (rf 25, .inl (c_rankOf, 106496, .inl g_rankOf)), (rf 28, .inl (c_sizes, 4096, .inl g_sizes))] U.heap ∧ va_K (dC, dI) vwCl [(c_elements, .int), (c_ranks, .int), (c_rankOf, .byte), (c_sizes, .int)] U ∧ va_D (fun _ => True) [(h0, .inr (8, px_mf rf iv)), (rf 19, .inl (c_elements, 26, .inl g_elements)), (rf 21, .inl (c_ranks, 26, .inl g_ranks)), (rf 25, .inl (c_rankOf, 106496, .inl g_rankOf)), (rf 28, .inl (c_sizes, 4096, .inl g_sizes))] ∧ px_N U)) (va_Qi (fun (r : Int32) (u : (Nat → Int32) × (Nat → Int32) × (Nat → Int32) × (Nat → Int32) × (Nat → Int32)) => post r u.1 u.2.1 u.2.2.1 u.2.2.2.1 u.2.2.2.2) (fun (u : (Nat → Int32) × (Nat → Int32) × (Nat → Int32) × (Nat → Int32) × (Nat → Int32)) (t : State) => va_P (dC, dI) vwCl [(h0, .inr (8, px_mf rf u.1)), (rf 19, .inl (c_elements, 26, .inl u.2.1)), (rf 21, .inl (c_ranks, 26, .inl u.2.2.1)), (rf 25, .inl (c_rankOf, 106496, .inl u.2.2.2.1)), (rf 28, .inl (c_sizes, 4096, .inl u.2.2.2.2))] t.heap ∧ va_K (dC, dI) vwCl [(c_elements, .int), (c_ranks, .int), (c_rankOf, .byte), (c_sizes, .int)] t ∧ va_D (va_A [(h0, .inr (8, px_mf rf iv)), (rf 19, .inl (c_elements, 26, .inl g_elements)), (rf 21, .inl (c_ranks, 26, .inl g_ranks)), (rf 25, .inl (c_rankOf, 106496, .inl g_rankOf)), (rf 28, .inl (c_sizes, 4096, .inl g_sizes))] sz) [(h0, .inr (8, px_mf rf u.1)), (rf 19, .inl (c_elements, 26, .inl u.2.1)), (rf 21, .inl (c_ranks, 26, .inl u.2.2.1)), (rf 25, .inl (c_rankOf, 106496, .inl u.2.2.2.1)), (rf 28, .inl (c_sizes, 4096, .inl u.2.2.2.2))]) (va_A [(h0, .inr (8, px_mf rf iv)), (rf 19, .inl (c_elements, 26, .inl g_elements)), (rf 21, .inl (c_ranks, 26, .inl g_ranks)), (rf 25, .inl (c_rankOf, 106496, .inl g_rankOf)), (rf 28, .inl (c_sizes, 4096, .inl g_sizes))] sz)) 0 0 (va_A [(h0, .inr (8, px_mf rf iv)), (rf 19, .inl (c_elements, 26, .inl g_elements)), (rf 21, .inl (c_ranks, 26, .inl g_ranks)), (rf 25, .inl (c_rankOf, 106496, .inl g_rankOf)), (rf 28, .inl (c_sizes, 4096, .inl g_sizes))] sz) := by
  refine Met.ofW (cc := prog_15_method_29_code) (maxL := 7) (ret := (some .boolean)) (by decide) rfl ?_
  intro p e s m args below meth c s₁ B hml hv
  obtain ⟨rfl, hsz, hP, hK, hD0, hN⟩ := hv
  have hx := B.exec
  have hb := B.bytes
  have hr := B.returns
  have htw : ∀ w ∈ px_all, w.before _ s = true := fun w h => atoms_spec (ws := px_s74) B.pre w (List.mem_cons_of_mem _ h)
  have hown : s.vm.findClass "MatroidDeskModel" = some m.cls := findClass_of_methodNamed B.named
  have hlocks := B.notSynchronized
  subst hsz
  have hD := hD0.self (sz := s.heap.size)
  generalize hAe : va_A [(h0, .inr (8, px_mf rf iv)), (rf 19, .inl (c_elements, 26, .inl g_elements)), (rf 21, .inl (c_ranks, 26, .inl g_ranks)), (rf 25, .inl (c_rankOf, 106496, .inl g_rankOf)), (rf 28, .inl (c_sizes, 4096, .inl g_sizes))] s.heap.size = A at hD ⊢
  have hA : ∀ q : Nat, s.heap.size ≤ q → A q := fun q h => by rw [← hAe]; exact Or.inr h
  have hS : va_S A s.heap s.heap [] := va_S.rf
  have hP : va_P (dC, dI) vwCl [(h0, .inr (8, px_mf rf iv)), (rf 19, .inl (c_elements, 26, .inl g_elements)), (rf 21, .inl (c_ranks, 26, .inl g_ranks)), (rf 25, .inl (c_rankOf, 106496, .inl g_rankOf)), (rf 28, .inl (c_sizes, 4096, .inl g_sizes))] s.heap := hP
  have hl := lv_entry ([.ref h0, .int a1x, .int a2x, .int a3x]) (n := 7) (Nat.le_of_ble_eq_true rfl)
  rw [lg_entry_eq]
  generalize (lg_sl ([.ref h0, .int a1x, .int a2x, .int a3x]) ++ List.replicate (7 - (lg_sl ([.ref h0, .int a1x, .int a2x, .int a3x])).length) Slot.unset).toArray = ls at hl ⊢
  have hl : lv_has ls 7 [(0, .ref h0), (1, .int a1x), (2, .int a2x), (3, .int a3x)] := hl
  generalize hQ : MQ _ _ _ _ _ _ _ = Q
  have S116 : ∀ (x1 : Int32) (x2 : Int32) (x3 : Int32) (x4 : Int32) (x5 : Int32) (iv : Nat → Int32) (g_elements : Nat → Int32) (g_ranks : Nat → Int32) (g_rankOf : Nat → Int32) (g_sizes : Nat → Int32) (H : Heap) (locs : List Loc) (ls : Array Slot), va_P (dC, dI) vwCl [(h0, .inr (8, px_mf rf iv)), (rf 19, .inl (c_elements, 26, .inl g_elements)), (rf 21, .inl (c_ranks, 26, .inl g_ranks)), (rf 25, .inl (c_rankOf, 106496, .inl g_rankOf)), (rf 28, .inl (c_sizes, 4096, .inl g_sizes))] H → va_D A [(h0, .inr (8, px_mf rf iv)), (rf 19, .inl (c_elements, 26, .inl g_elements)), (rf 21, .inl (c_ranks, 26, .inl g_ranks)), (rf 25, .inl (c_rankOf, 106496, .inl g_rankOf)), (rf 28, .inl (c_sizes, 4096, .inl g_sizes))] → va_S A s.heap H locs → lv_has ls 7 [(0, .ref h0), (1, .int x1), (2, .int x2), (3, .int x3), (4, .int x4), (5, .int x5)] → w74_L116 post x1 x2 x3 x4 x5 iv g_elements g_ranks g_rankOf g_sizes → W p l e (headSpec px_s74 ({ frames := 2, cells := 0, slots := 0, locals := 44 })).room s m ([.ref h0, .int a1x, .int a2x, .int a3x]).toArray below meth c H locs 0 0 Q (F0 m 116 ls []) := by
    intro x1 x2 x3 x4 x5 iv g_elements g_ranks g_rankOf g_sizes H locs ls hP hD hS hl hw
    unfold w74_L116 at hw
    refine lv_iload hx hb px_d74_116 (lv_at hl 4 rfl) ?_
    obtain ⟨hz9, hw⟩ := hw
    rw [← hQ]
    exact W.zret (v := x4) hx hb hr hz9 (fun t ht hW => ⟨⟨x4, (iv, g_elements, g_ranks, g_rankOf, g_sizes), rfl, hw, by rw [ht]; exact hP, va_K.moved hW.alike hK, hD⟩, hS.F ht⟩) hS.2.2 px_d74_118
  have S38 : ∀ (k38 : Nat) (x1 : Int32) (x2 : Int32) (x3 : Int32) (x4 : Int32) (x5 : Int32) (iv : Nat → Int32) (g_elements : Nat → Int32) (g_ranks : Nat → Int32) (g_rankOf : Nat → Int32) (g_sizes : Nat → Int32) (H : Heap) (locs : List Loc) (ls : Array Slot), va_P (dC, dI) vwCl [(h0, .inr (8, px_mf rf iv)), (rf 19, .inl (c_elements, 26, .inl g_elements)), (rf 21, .inl (c_ranks, 26, .inl g_ranks)), (rf 25, .inl (c_rankOf, 106496, .inl g_rankOf)), (rf 28, .inl (c_sizes, 4096, .inl g_sizes))] H → va_D A [(h0, .inr (8, px_mf rf iv)), (rf 19, .inl (c_elements, 26, .inl g_elements)), (rf 21, .inl (c_ranks, 26, .inl g_ranks)), (rf 25, .inl (c_rankOf, 106496, .inl g_rankOf)), (rf 28, .inl (c_sizes, 4096, .inl g_sizes))] → va_S A s.heap H locs → lv_has ls 7 [(0, .ref h0), (1, .int x1), (2, .int x2), (3, .int x3), (4, .int x4), (5, .int x5)] → w74_L38 post k38 x1 x2 x3 x4 x5 iv g_elements g_ranks g_rankOf g_sizes → W p l e (headSpec px_s74 ({ frames := 2, cells := 0, slots := 0, locals := 44 })).room s m ([.ref h0, .int a1x, .int a2x, .int a3x]).toArray below meth c H locs 0 0 Q (F0 m 38 ls []) := by
    intro k38
    induction k38 with
    | zero => intro x1 x2 x3 x4 x5 iv g_elements g_ranks g_rankOf g_sizes H locs ls hP hD hS hl hw; exact False.elim hw
    | succ k38 ih38 =>
      have S110 : ∀ (x1 : Int32) (x2 : Int32) (x3 : Int32) (x4 : Int32) (x5 : Int32) (iv : Nat → Int32) (g_elements : Nat → Int32) (g_ranks : Nat → Int32) (g_rankOf : Nat → Int32) (g_sizes : Nat → Int32) (H : Heap) (locs : List Loc) (ls : Array Slot), va_P (dC, dI) vwCl [(h0, .inr (8, px_mf rf iv)), (rf 19, .inl (c_elements, 26, .inl g_elements)), (rf 21, .inl (c_ranks, 26, .inl g_ranks)), (rf 25, .inl (c_rankOf, 106496, .inl g_rankOf)), (rf 28, .inl (c_sizes, 4096, .inl g_sizes))] H → va_D A [(h0, .inr (8, px_mf rf iv)), (rf 19, .inl (c_elements, 26, .inl g_elements)), (rf 21, .inl (c_ranks, 26, .inl g_ranks)), (rf 25, .inl (c_rankOf, 106496, .inl g_rankOf)), (rf 28, .inl (c_sizes, 4096, .inl g_sizes))] → va_S A s.heap H locs → lv_has ls 7 [(0, .ref h0), (1, .int x1), (2, .int x2), (3, .int x3), (4, .int x4), (5, .int x5)] → w74_L110 (w74_L38 post k38) post x1 x2 x3 x4 x5 iv g_elements g_ranks g_rankOf g_sizes → W p l e (headSpec px_s74 ({ frames := 2, cells := 0, slots := 0, locals := 44 })).room s m ([.ref h0, .int a1x, .int a2x, .int a3x]).toArray below meth c H locs 0 0 Q (F0 m 110 ls []) := by
        intro x1 x2 x3 x4 x5 iv g_elements g_ranks g_rankOf g_sizes H locs ls hP hD hS hl hw
        unfold w74_L110 at hw
        obtain ⟨z1, ez1⟩ : ∃ y : Int32, y = x5 + 1 := ⟨_, rfl⟩
        have hw := hw z1 ez1
        refine lv_iinc (v := z1) (lv' := [(5, .int z1), (0, .ref h0), (1, .int x1), (2, .int x2), (3, .int x3), (4, .int x4)]) hx hb px_d74_110 hl (k := 5) rfl (by rw [ez1]; rfl) (by decide) rfl (fun ls hl => ?_)
        refine lv_goto (tgt := 38) hx hb px_d74_113 (by decide) ?_
        exact ih38 x1 x2 x3 x4 z1 iv g_elements g_ranks g_rankOf g_sizes H locs ls hP hD hS (lv_sub hl [1, 2, 3, 4, 5, 0] rfl) hw
      have S108 : ∀ (x1 : Int32) (x2 : Int32) (x3 : Int32) (x4 : Int32) (x5 : Int32) (x6 : Int32) (y0 : Int32) (iv : Nat → Int32) (g_elements : Nat → Int32) (g_ranks : Nat → Int32) (g_rankOf : Nat → Int32) (g_sizes : Nat → Int32) (H : Heap) (locs : List Loc) (ls : Array Slot), va_P (dC, dI) vwCl [(h0, .inr (8, px_mf rf iv)), (rf 19, .inl (c_elements, 26, .inl g_elements)), (rf 21, .inl (c_ranks, 26, .inl g_ranks)), (rf 25, .inl (c_rankOf, 106496, .inl g_rankOf)), (rf 28, .inl (c_sizes, 4096, .inl g_sizes))] H → va_D A [(h0, .inr (8, px_mf rf iv)), (rf 19, .inl (c_elements, 26, .inl g_elements)), (rf 21, .inl (c_ranks, 26, .inl g_ranks)), (rf 25, .inl (c_rankOf, 106496, .inl g_rankOf)), (rf 28, .inl (c_sizes, 4096, .inl g_sizes))] → va_S A s.heap H locs → lv_has ls 7 [(0, .ref h0), (1, .int x1), (2, .int x2), (3, .int x3), (4, .int x4), (5, .int x5), (6, .int x6)] → w74_L108 (w74_L38 post k38) post x1 x2 x3 x4 x5 x6 y0 iv g_elements g_ranks g_rankOf g_sizes → W p l e (headSpec px_s74 ({ frames := 2, cells := 0, slots := 0, locals := 44 })).room s m ([.ref h0, .int a1x, .int a2x, .int a3x]).toArray below meth c H locs 0 0 Q (F0 m 108 ls [.int y0]) := by
        intro x1 x2 x3 x4 x5 x6 y0 iv g_elements g_ranks g_rankOf g_sizes H locs ls hP hD hS hl hw
        unfold w74_L108 at hw
        refine lv_istore (lv' := [(4, .int y0), (0, .ref h0), (1, .int x1), (2, .int x2), (3, .int x3), (5, .int x5), (6, .int x6)]) hx hb px_d74_108 hl (by decide) rfl (fun ls hl => ?_)
        exact S110 x1 x2 x3 y0 x5 iv g_elements g_ranks g_rankOf g_sizes H locs ls hP hD hS (lv_sub hl [1, 2, 3, 4, 0, 5] rfl) hw
      have S93 : ∀ (x1 : Int32) (x2 : Int32) (x3 : Int32) (x4 : Int32) (x5 : Int32) (x6 : Int32) (y0 : Int32) (iv : Nat → Int32) (g_elements : Nat → Int32) (g_ranks : Nat → Int32) (g_rankOf : Nat → Int32) (g_sizes : Nat → Int32) (H : Heap) (locs : List Loc) (ls : Array Slot), va_P (dC, dI) vwCl [(h0, .inr (8, px_mf rf iv)), (rf 19, .inl (c_elements, 26, .inl g_elements)), (rf 21, .inl (c_ranks, 26, .inl g_ranks)), (rf 25, .inl (c_rankOf, 106496, .inl g_rankOf)), (rf 28, .inl (c_sizes, 4096, .inl g_sizes))] H → va_D A [(h0, .inr (8, px_mf rf iv)), (rf 19, .inl (c_elements, 26, .inl g_elements)), (rf 21, .inl (c_ranks, 26, .inl g_ranks)), (rf 25, .inl (c_rankOf, 106496, .inl g_rankOf)), (rf 28, .inl (c_sizes, 4096, .inl g_sizes))] → va_S A s.heap H locs → lv_has ls 7 [(0, .ref h0), (1, .int x1), (2, .int x2), (3, .int x3), (4, .int x4), (5, .int x5), (6, .int x6)] → w74_L93 (w74_L38 post k38) post x1 x2 x3 x4 x5 x6 y0 iv g_elements g_ranks g_rankOf g_sizes → W p l e (headSpec px_s74 ({ frames := 2, cells := 0, slots := 0, locals := 44 })).room s m ([.ref h0, .int a1x, .int a2x, .int a3x]).toArray below meth c H locs 0 0 Q (F0 m 93 ls [.int y0]) := by
        intro x1 x2 x3 x4 x5 x6 y0 iv g_elements g_ranks g_rankOf g_sizes H locs ls hP hD hS hl hw
        unfold w74_L93 at hw
        refine lv_aload_n hx hb px_d74_93 rfl (lv_at hl 0 rfl) ?_
        refine va_get (D := (dC, dI)) (ci := 8) (v := .ref (rf 28)) (C := "MatroidDeskModel") (T := px_T8) (N := 53) hx hb htw px_in8 hown hK hP 0 rfl rfl 28 (by decide) (htw _ px_w513) (fun _ h9 => h9) rfl px_d74_94 ?_
        refine lv_iload hx hb px_d74_97 (lv_at hl 6 rfl) ?_
        obtain ⟨hi99, hw⟩ := hw
        refine va_iald hx hb hK hP 4 3 rfl rfl hi99 px_d74_99 ?_
        refine lv_icmp_ne (tgt := 107) hx hb px_d74_100 (by decide) (fun c100 => ?_) (fun c100 => ?_)
        · have hw := hw.1 c100
          refine lv_iconst (v := 0) hx hb px_d74_107 (by decide) ?_
          exact S108 x1 x2 x3 x4 x5 x6 0 iv g_elements g_ranks g_rankOf g_sizes H locs ls hP hD hS (lv_sub hl [0, 1, 2, 3, 4, 5, 6] rfl) hw
        · have hw := hw.2 c100
          refine lv_iconst (v := 1) hx hb px_d74_103 (by decide) ?_
          refine lv_goto (tgt := 108) hx hb px_d74_104 (by decide) ?_
          exact S108 x1 x2 x3 x4 x5 x6 1 iv g_elements g_ranks g_rankOf g_sizes H locs ls hP hD hS (lv_sub hl [0, 1, 2, 3, 4, 5, 6] rfl) hw
      intro x1 x2 x3 x4 x5 iv g_elements g_ranks g_rankOf g_sizes H locs ls hP hD hS hl hw
      unfold w74_L38 at hw
      refine lv_iload hx hb px_d74_38 (lv_at hl 5 rfl) ?_
      refine lv_aload_n hx hb px_d74_40 rfl (lv_at hl 0 rfl) ?_
      refine va_get (D := (dC, dI)) (ci := 8) (v := .ref (rf 19)) (C := "MatroidDeskModel") (T := px_T8) (N := 53) hx hb htw px_in8 hown hK hP 0 rfl rfl 19 (by decide) (htw _ px_w502) (fun _ h9 => h9) rfl px_d74_41 ?_
      refine lv_iload_n hx hb px_d74_44 rfl (lv_at hl 1 rfl) ?_
      obtain ⟨hi45, hw⟩ := hw
      refine va_iald hx hb hK hP 1 0 rfl rfl hi45 px_d74_45 ?_
      refine lv_icmp_ge (tgt := 116) hx hb px_d74_46 (by decide) (fun c46 => ?_) (fun c46 => ?_)
      · have hw := hw.1 c46
        exact S116 x1 x2 x3 x4 x5 iv g_elements g_ranks g_rankOf g_sizes H locs ls hP hD hS (lv_sub hl [0, 1, 2, 3, 4, 5] rfl) hw
      · have hw := hw.2 c46
        refine lv_iload hx hb px_d74_49 (lv_at hl 4 rfl) ?_
        refine lv_if_eq (tgt := 116) hx hb px_d74_51 (by decide) (fun c51 => ?_) (fun c51 => ?_)
        · have hw := hw.1 c51
          exact S116 x1 x2 x3 x4 x5 iv g_elements g_ranks g_rankOf g_sizes H locs ls hP hD hS (lv_sub hl [0, 1, 2, 3, 4, 5] rfl) hw
        · have hw := hw.2 c51
          refine lv_iload_n hx hb px_d74_54 rfl (lv_at hl 2 rfl) ?_
          refine lv_iload hx hb px_d74_55 (lv_at hl 5 rfl) ?_
          refine lv_ishr hx hb px_d74_57 ?_
          refine lv_iconst (v := 1) hx hb px_d74_58 (by decide) ?_
          refine lv_iand hx hb px_d74_59 ?_
          refine lv_iconst (v := 1) hx hb px_d74_60 (by decide) ?_
          refine lv_icmp_ne (tgt := 110) hx hb px_d74_61 (by decide) (fun c61 => ?_) (fun c61 => ?_)
          · have hw := hw.1 c61
            exact S110 x1 x2 x3 x4 x5 iv g_elements g_ranks g_rankOf g_sizes H locs ls hP hD hS (lv_sub hl [0, 1, 2, 3, 4, 5] rfl) hw
          · have hw := hw.2 c61
            refine lv_iload_n hx hb px_d74_64 rfl (lv_at hl 2 rfl) ?_
            refine lv_iconst (v := 1) hx hb px_d74_65 (by decide) ?_
            refine lv_iload hx hb px_d74_66 (lv_at hl 5 rfl) ?_
            refine lv_ishl hx hb px_d74_68 ?_
            refine lv_ixor hx hb px_d74_69 ?_
            refine lv_topi (fun z2 ez2 => ?_)
            have hw := hw z2 ez2
            refine lv_istore (lv' := [(6, .int z2), (0, .ref h0), (1, .int x1), (2, .int x2), (3, .int x3), (4, .int x4), (5, .int x5)]) hx hb px_d74_70 hl (by decide) rfl (fun ls hl => ?_)
            refine lv_iload_n hx hb px_d74_72 rfl (lv_at hl 4 rfl) ?_
            refine lv_if_eq (tgt := 86) hx hb px_d74_73 (by decide) (fun c73 => ?_) (fun c73 => ?_)
            · have hw := hw.1 c73
              refine lv_aload_n hx hb px_d74_86 rfl (lv_at hl 1 rfl) ?_
              refine lv_iload_n hx hb px_d74_87 rfl (lv_at hl 2 rfl) ?_
              refine lv_iload hx hb px_d74_88 (lv_at hl 0 rfl) ?_
              have hPc := hP.sub (ws' := [(h0, .inr (8, px_mf rf iv)), (rf 25, .inl (c_rankOf, 106496, .inl g_rankOf))]) [0, 3] rfl
              have hDc := hD.sub (ws' := [(h0, .inr (8, px_mf rf iv)), (rf 25, .inl (c_rankOf, 106496, .inl g_rankOf))]) [0, 3] (by decide) rfl
              have hKc := hK.sub (tys' := [(c_rankOf, .byte)]) [2] rfl
              have hFc := va_free (wc := [(h0, .inr (8, px_mf rf iv)), (rf 25, .inl (c_rankOf, 106496, .inl g_rankOf))]) hD hS hA [0, 3] rfl
              refine va_calli (va_runV (As := [.int x1, .int z2]) (rest := []) ⟨hx, hb, hml, hown, htw⟩ (w70_met l dC dI H.size h0 rf c_rankOf x1 z2 iv g_rankOf _ hw) (cwV 2 htw (px_gv px_w561 px_w553 px_w554 px_w94 px_g70) rfl rfl rfl (by decide +kernel) ⟨Nat.le_of_ble_eq_true rfl, Nat.le_of_ble_eq_true rfl⟩) ⟨fun a U g mk q => by obtain ⟨q0, q1, qP, qK, qD, qN⟩ := q; exact ⟨q0, q1, qP, va_K.moved (u := U) (U := U.calling g mk a) (Vm.Alike.refl U.vm) qK, qD, qN.same rfl⟩, va_recv hK hP (ci := 8) (q0 := 0) rfl rfl, fun U hU hW => ⟨rfl, by rw [hU], by rw [hU]; exact hPc, va_K.moved hW.alike hKc, hDc.weaken (fun _ _ _ _ => trivial), hN.warm hW⟩⟩ rfl rfl hl.1 rfl (lv_room (Nat.le_of_ble_eq_true rfl)) px_d74_90 ⟨(Nat.le_of_ble_eq_true rfl), (Nat.le_of_ble_eq_true rfl)⟩) hS (fun q _ h => hFc q h) hFc (fun r90 u t H1 locs ht hvm hw hB hz1 hk1 hS => ?_)
              obtain ⟨v3, v4⟩ := u
              obtain ⟨hP1, hK1, hD1⟩ := hB
              rw [ht] at hP1
              have hK1 := va_K.moved hvm.symm hK1
              obtain ⟨hP, hD⟩ := va_join (wr := [(rf 19, .inl (c_elements, 26, .inl g_elements)), (rf 21, .inl (c_ranks, 26, .inl g_ranks)), (rf 28, .inl (c_sizes, 4096, .inl g_sizes))]) (w1 := [(h0, .inr (8, px_mf rf v3)), (rf 25, .inl (c_rankOf, 106496, .inl v4))]) hP hD [0, 3] [1, 2, 4] rfl rfl (by decide) (by decide) hk1 hFc hP1 hD1
              generalize H1 = H at hP hS ⊢
              have hP : va_P (dC, dI) vwCl [(rf 19, .inl (c_elements, 26, .inl g_elements)), (rf 21, .inl (c_ranks, 26, .inl g_ranks)), (rf 28, .inl (c_sizes, 4096, .inl g_sizes)), (h0, .inr (8, px_mf rf v3)), (rf 25, .inl (c_rankOf, 106496, .inl v4))] H := hP
              have hD : va_D A [(rf 19, .inl (c_elements, 26, .inl g_elements)), (rf 21, .inl (c_ranks, 26, .inl g_ranks)), (rf 28, .inl (c_sizes, 4096, .inl g_sizes)), (h0, .inr (8, px_mf rf v3)), (rf 25, .inl (c_rankOf, 106496, .inl v4))] := hD
              have hP := hP.sub (ws' := [(h0, .inr (8, px_mf rf v3)), (rf 19, .inl (c_elements, 26, .inl g_elements)), (rf 21, .inl (c_ranks, 26, .inl g_ranks)), (rf 25, .inl (c_rankOf, 106496, .inl v4)), (rf 28, .inl (c_sizes, 4096, .inl g_sizes))]) [3, 0, 1, 4, 2] rfl
              have hD := hD.sub (ws' := [(h0, .inr (8, px_mf rf v3)), (rf 19, .inl (c_elements, 26, .inl g_elements)), (rf 21, .inl (c_ranks, 26, .inl g_ranks)), (rf 25, .inl (c_rankOf, 106496, .inl v4)), (rf 28, .inl (c_sizes, 4096, .inl g_sizes))]) [3, 0, 1, 4, 2] (by decide) rfl
              exact S93 x1 x2 x3 x4 x5 z2 r90 v3 g_elements g_ranks v4 g_sizes H locs ls hP hD hS (lv_sub hl [1, 2, 3, 4, 5, 6, 0] rfl) hw
            · have hw := hw.2 c73
              refine lv_aload_n hx hb px_d74_76 rfl (lv_at hl 1 rfl) ?_
              refine lv_iload_n hx hb px_d74_77 rfl (lv_at hl 2 rfl) ?_
              refine lv_iload hx hb px_d74_78 (lv_at hl 0 rfl) ?_
              have hPc := hP.sub (ws' := [(h0, .inr (8, px_mf rf iv)), (rf 19, .inl (c_elements, 26, .inl g_elements)), (rf 21, .inl (c_ranks, 26, .inl g_ranks)), (rf 25, .inl (c_rankOf, 106496, .inl g_rankOf)), (rf 28, .inl (c_sizes, 4096, .inl g_sizes))]) [0, 1, 2, 3, 4] rfl
              have hDc := hD.sub (ws' := [(h0, .inr (8, px_mf rf iv)), (rf 19, .inl (c_elements, 26, .inl g_elements)), (rf 21, .inl (c_ranks, 26, .inl g_ranks)), (rf 25, .inl (c_rankOf, 106496, .inl g_rankOf)), (rf 28, .inl (c_sizes, 4096, .inl g_sizes))]) [0, 1, 2, 3, 4] (by decide) rfl
              have hKc := hK.sub (tys' := [(c_elements, .int), (c_ranks, .int), (c_rankOf, .byte), (c_sizes, .int)]) [0, 1, 2, 3] rfl
              have hFc := va_free (wc := [(h0, .inr (8, px_mf rf iv)), (rf 19, .inl (c_elements, 26, .inl g_elements)), (rf 21, .inl (c_ranks, 26, .inl g_ranks)), (rf 25, .inl (c_rankOf, 106496, .inl g_rankOf)), (rf 28, .inl (c_sizes, 4096, .inl g_sizes))]) hD hS hA [0, 1, 2, 3, 4] rfl
              refine va_calli (va_runV (As := [.int x1, .int z2]) (rest := []) ⟨hx, hb, hml, hown, htw⟩ (w73_met l dC dI H.size h0 rf c_elements c_ranks c_rankOf c_sizes x1 z2 iv g_elements g_ranks g_rankOf g_sizes _ hw) (cwV 2 htw (px_gv px_w569 px_w563 px_w564 px_w94 px_g73) rfl rfl rfl (by decide +kernel) ⟨Nat.le_of_ble_eq_true rfl, Nat.le_of_ble_eq_true rfl⟩) ⟨fun a U g mk q => by obtain ⟨q0, q1, qP, qK, qD, qN⟩ := q; exact ⟨q0, q1, qP, va_K.moved (u := U) (U := U.calling g mk a) (Vm.Alike.refl U.vm) qK, qD, qN.same rfl⟩, va_recv hK hP (ci := 8) (q0 := 0) rfl rfl, fun U hU hW => ⟨rfl, by rw [hU], by rw [hU]; exact hPc, va_K.moved hW.alike hKc, hDc.weaken (fun _ _ _ _ => trivial), hN.warm hW⟩⟩ rfl rfl hl.1 rfl (lv_room (Nat.le_of_ble_eq_true rfl)) px_d74_80 ⟨(Nat.le_of_ble_eq_true rfl), (Nat.le_of_ble_eq_true rfl)⟩) hS (fun q _ h => hFc q h) hFc (fun r80 u t H1 locs ht hvm hw hB hz1 hk1 hS => ?_)
              obtain ⟨v5, v6, v7, v8, v9⟩ := u
              obtain ⟨hP1, hK1, hD1⟩ := hB
              rw [ht] at hP1
              have hK1 := va_K.moved hvm.symm hK1
              obtain ⟨hP, hD⟩ := va_join (wr := []) (w1 := [(h0, .inr (8, px_mf rf v5)), (rf 19, .inl (c_elements, 26, .inl v6)), (rf 21, .inl (c_ranks, 26, .inl v7)), (rf 25, .inl (c_rankOf, 106496, .inl v8)), (rf 28, .inl (c_sizes, 4096, .inl v9))]) hP hD [0, 1, 2, 3, 4] [] rfl rfl (by decide) (by decide) hk1 hFc hP1 hD1
              generalize H1 = H at hP hS ⊢
              have hP : va_P (dC, dI) vwCl [(h0, .inr (8, px_mf rf v5)), (rf 19, .inl (c_elements, 26, .inl v6)), (rf 21, .inl (c_ranks, 26, .inl v7)), (rf 25, .inl (c_rankOf, 106496, .inl v8)), (rf 28, .inl (c_sizes, 4096, .inl v9))] H := hP
              have hD : va_D A [(h0, .inr (8, px_mf rf v5)), (rf 19, .inl (c_elements, 26, .inl v6)), (rf 21, .inl (c_ranks, 26, .inl v7)), (rf 25, .inl (c_rankOf, 106496, .inl v8)), (rf 28, .inl (c_sizes, 4096, .inl v9))] := hD
              refine lv_goto (tgt := 93) hx hb px_d74_83 (by decide) ?_
              exact S93 x1 x2 x3 x4 x5 z2 r80 v5 v6 v7 v8 v9 H locs ls hP hD hS (lv_sub hl [1, 2, 3, 4, 5, 6, 0] rfl) hw
  have S33 : ∀ (x1 : Int32) (x2 : Int32) (x3 : Int32) (y0 : Int32) (iv : Nat → Int32) (g_elements : Nat → Int32) (g_ranks : Nat → Int32) (g_rankOf : Nat → Int32) (g_sizes : Nat → Int32) (H : Heap) (locs : List Loc) (ls : Array Slot), va_P (dC, dI) vwCl [(h0, .inr (8, px_mf rf iv)), (rf 19, .inl (c_elements, 26, .inl g_elements)), (rf 21, .inl (c_ranks, 26, .inl g_ranks)), (rf 25, .inl (c_rankOf, 106496, .inl g_rankOf)), (rf 28, .inl (c_sizes, 4096, .inl g_sizes))] H → va_D A [(h0, .inr (8, px_mf rf iv)), (rf 19, .inl (c_elements, 26, .inl g_elements)), (rf 21, .inl (c_ranks, 26, .inl g_ranks)), (rf 25, .inl (c_rankOf, 106496, .inl g_rankOf)), (rf 28, .inl (c_sizes, 4096, .inl g_sizes))] → va_S A s.heap H locs → lv_has ls 7 [(0, .ref h0), (1, .int x1), (2, .int x2), (3, .int x3)] → w74_L33 post x1 x2 x3 y0 iv g_elements g_ranks g_rankOf g_sizes → W p l e (headSpec px_s74 ({ frames := 2, cells := 0, slots := 0, locals := 44 })).room s m ([.ref h0, .int a1x, .int a2x, .int a3x]).toArray below meth c H locs 0 0 Q (F0 m 33 ls [.int y0]) := by
    intro x1 x2 x3 y0 iv g_elements g_ranks g_rankOf g_sizes H locs ls hP hD hS hl hw
    unfold w74_L33 at hw
    refine lv_istore (lv' := [(4, .int y0), (0, .ref h0), (1, .int x1), (2, .int x2), (3, .int x3)]) hx hb px_d74_33 hl (by decide) rfl (fun ls hl => ?_)
    refine lv_iconst (v := 0) hx hb px_d74_35 (by decide) ?_
    refine lv_istore (lv' := [(5, .int 0), (4, .int y0), (0, .ref h0), (1, .int x1), (2, .int x2), (3, .int x3)]) hx hb px_d74_36 hl (by decide) rfl (fun ls hl => ?_)
    obtain ⟨k9, hw⟩ := hw
    exact S38 k9 x1 x2 x3 y0 0 iv g_elements g_ranks g_rankOf g_sizes H locs ls hP hD hS (lv_sub hl [2, 3, 4, 5, 1, 0] rfl) hw
  have S19 : ∀ (x1 : Int32) (x2 : Int32) (x3 : Int32) (y0 : Int32) (iv : Nat → Int32) (g_elements : Nat → Int32) (g_ranks : Nat → Int32) (g_rankOf : Nat → Int32) (g_sizes : Nat → Int32) (H : Heap) (locs : List Loc) (ls : Array Slot), va_P (dC, dI) vwCl [(h0, .inr (8, px_mf rf iv)), (rf 19, .inl (c_elements, 26, .inl g_elements)), (rf 21, .inl (c_ranks, 26, .inl g_ranks)), (rf 25, .inl (c_rankOf, 106496, .inl g_rankOf)), (rf 28, .inl (c_sizes, 4096, .inl g_sizes))] H → va_D A [(h0, .inr (8, px_mf rf iv)), (rf 19, .inl (c_elements, 26, .inl g_elements)), (rf 21, .inl (c_ranks, 26, .inl g_ranks)), (rf 25, .inl (c_rankOf, 106496, .inl g_rankOf)), (rf 28, .inl (c_sizes, 4096, .inl g_sizes))] → va_S A s.heap H locs → lv_has ls 7 [(0, .ref h0), (1, .int x1), (2, .int x2), (3, .int x3)] → w74_L19 post x1 x2 x3 y0 iv g_elements g_ranks g_rankOf g_sizes → W p l e (headSpec px_s74 ({ frames := 2, cells := 0, slots := 0, locals := 44 })).room s m ([.ref h0, .int a1x, .int a2x, .int a3x]).toArray below meth c H locs 0 0 Q (F0 m 19 ls [.int y0]) := by
    intro x1 x2 x3 y0 iv g_elements g_ranks g_rankOf g_sizes H locs ls hP hD hS hl hw
    unfold w74_L19 at hw
    refine lv_aload_n hx hb px_d74_19 rfl (lv_at hl 0 rfl) ?_
    refine va_get (D := (dC, dI)) (ci := 8) (v := .ref (rf 28)) (C := "MatroidDeskModel") (T := px_T8) (N := 53) hx hb htw px_in8 hown hK hP 0 rfl rfl 28 (by decide) (htw _ px_w513) (fun _ h9 => h9) rfl px_d74_20 ?_
    refine lv_iload_n hx hb px_d74_23 rfl (lv_at hl 2 rfl) ?_
    obtain ⟨hi24, hw⟩ := hw
    refine va_iald hx hb hK hP 4 3 rfl rfl hi24 px_d74_24 ?_
    refine lv_icmp_ge (tgt := 32) hx hb px_d74_25 (by decide) (fun c25 => ?_) (fun c25 => ?_)
    · have hw := hw.1 c25
      refine lv_iconst (v := 0) hx hb px_d74_32 (by decide) ?_
      exact S33 x1 x2 x3 0 iv g_elements g_ranks g_rankOf g_sizes H locs ls hP hD hS (lv_sub hl [0, 1, 2, 3] rfl) hw
    · have hw := hw.2 c25
      refine lv_iconst (v := 1) hx hb px_d74_28 (by decide) ?_
      refine lv_goto (tgt := 33) hx hb px_d74_29 (by decide) ?_
      exact S33 x1 x2 x3 1 iv g_elements g_ranks g_rankOf g_sizes H locs ls hP hD hS (lv_sub hl [0, 1, 2, 3] rfl) hw
  unfold w74_wp at hw
  have hS0 := hS
  obtain ⟨H, hH9⟩ : ∃ z, z = s.heap := ⟨_, rfl⟩
  have hP : va_P (dC, dI) vwCl [(h0, .inr (8, px_mf rf iv)), (rf 19, .inl (c_elements, 26, .inl g_elements)), (rf 21, .inl (c_ranks, 26, .inl g_ranks)), (rf 25, .inl (c_rankOf, 106496, .inl g_rankOf)), (rf 28, .inl (c_sizes, 4096, .inl g_sizes))] H := by rw [hH9]; exact hP
  obtain ⟨locs, hlo9⟩ : ∃ z : List Loc, z = [] := ⟨_, rfl⟩
  have hS : va_S A s.heap H locs := by rw [hH9, hlo9]; exact hS
  suffices hG : W p l e (headSpec px_s74 ({ frames := 2, cells := 0, slots := 0, locals := 44 })).room s m ([.ref h0, .int a1x, .int a2x, .int a3x]).toArray below meth c H locs 0 0 Q (F0 m 0 ls []) by rw [hH9, hlo9] at hG; exact hG
  refine lv_iload_n hx hb px_d74_0 rfl (lv_at hl 3 rfl) ?_
  refine lv_if_eq (tgt := 13) hx hb px_d74_1 (by decide) (fun c1 => ?_) (fun c1 => ?_)
  · have hw := hw.1 c1
    refine lv_aload_n hx hb px_d74_13 rfl (lv_at hl 0 rfl) ?_
    refine lv_iload_n hx hb px_d74_14 rfl (lv_at hl 1 rfl) ?_
    refine lv_iload_n hx hb px_d74_15 rfl (lv_at hl 2 rfl) ?_
    have hPc := hP.sub (ws' := [(h0, .inr (8, px_mf rf iv)), (rf 25, .inl (c_rankOf, 106496, .inl g_rankOf))]) [0, 3] rfl
    have hDc := hD.sub (ws' := [(h0, .inr (8, px_mf rf iv)), (rf 25, .inl (c_rankOf, 106496, .inl g_rankOf))]) [0, 3] (by decide) rfl
    have hKc := hK.sub (tys' := [(c_rankOf, .byte)]) [2] rfl
    have hFc := va_free (wc := [(h0, .inr (8, px_mf rf iv)), (rf 25, .inl (c_rankOf, 106496, .inl g_rankOf))]) hD hS hA [0, 3] rfl
    refine va_calli (va_runV (As := [.int a1x, .int a2x]) (rest := []) ⟨hx, hb, hml, hown, htw⟩ (w70_met l dC dI H.size h0 rf c_rankOf a1x a2x iv g_rankOf _ hw) (cwV 2 htw (px_gv px_w561 px_w553 px_w554 px_w94 px_g70) rfl rfl rfl (by decide +kernel) ⟨Nat.le_of_ble_eq_true rfl, Nat.le_of_ble_eq_true rfl⟩) ⟨fun a U g mk q => by obtain ⟨q0, q1, qP, qK, qD, qN⟩ := q; exact ⟨q0, q1, qP, va_K.moved (u := U) (U := U.calling g mk a) (Vm.Alike.refl U.vm) qK, qD, qN.same rfl⟩, va_recv hK hP (ci := 8) (q0 := 0) rfl rfl, fun U hU hW => ⟨rfl, by rw [hU], by rw [hU]; exact hPc, va_K.moved hW.alike hKc, hDc.weaken (fun _ _ _ _ => trivial), hN.warm hW⟩⟩ rfl rfl hl.1 rfl (lv_room (Nat.le_of_ble_eq_true rfl)) px_d74_16 ⟨(Nat.le_of_ble_eq_true rfl), (Nat.le_of_ble_eq_true rfl)⟩) hS (fun q _ h => hFc q h) hFc (fun r16 u t H1 locs ht hvm hw hB hz1 hk1 hS => ?_)
    obtain ⟨v10, v11⟩ := u
    obtain ⟨hP1, hK1, hD1⟩ := hB
    rw [ht] at hP1
    have hK1 := va_K.moved hvm.symm hK1
    obtain ⟨hP, hD⟩ := va_join (wr := [(rf 19, .inl (c_elements, 26, .inl g_elements)), (rf 21, .inl (c_ranks, 26, .inl g_ranks)), (rf 28, .inl (c_sizes, 4096, .inl g_sizes))]) (w1 := [(h0, .inr (8, px_mf rf v10)), (rf 25, .inl (c_rankOf, 106496, .inl v11))]) hP hD [0, 3] [1, 2, 4] rfl rfl (by decide) (by decide) hk1 hFc hP1 hD1
    generalize H1 = H at hP hS ⊢
    have hP : va_P (dC, dI) vwCl [(rf 19, .inl (c_elements, 26, .inl g_elements)), (rf 21, .inl (c_ranks, 26, .inl g_ranks)), (rf 28, .inl (c_sizes, 4096, .inl g_sizes)), (h0, .inr (8, px_mf rf v10)), (rf 25, .inl (c_rankOf, 106496, .inl v11))] H := hP
    have hD : va_D A [(rf 19, .inl (c_elements, 26, .inl g_elements)), (rf 21, .inl (c_ranks, 26, .inl g_ranks)), (rf 28, .inl (c_sizes, 4096, .inl g_sizes)), (h0, .inr (8, px_mf rf v10)), (rf 25, .inl (c_rankOf, 106496, .inl v11))] := hD
    have hP := hP.sub (ws' := [(h0, .inr (8, px_mf rf v10)), (rf 19, .inl (c_elements, 26, .inl g_elements)), (rf 21, .inl (c_ranks, 26, .inl g_ranks)), (rf 25, .inl (c_rankOf, 106496, .inl v11)), (rf 28, .inl (c_sizes, 4096, .inl g_sizes))]) [3, 0, 1, 4, 2] rfl
    have hD := hD.sub (ws' := [(h0, .inr (8, px_mf rf v10)), (rf 19, .inl (c_elements, 26, .inl g_elements)), (rf 21, .inl (c_ranks, 26, .inl g_ranks)), (rf 25, .inl (c_rankOf, 106496, .inl v11)), (rf 28, .inl (c_sizes, 4096, .inl g_sizes))]) [3, 0, 1, 4, 2] (by decide) rfl
    exact S19 a1x a2x a3x r16 v10 g_elements g_ranks v11 g_sizes H locs ls hP hD hS (lv_sub hl [0, 1, 2, 3] rfl) hw
  · have hw := hw.2 c1
    refine lv_aload_n hx hb px_d74_4 rfl (lv_at hl 0 rfl) ?_
    refine lv_iload_n hx hb px_d74_5 rfl (lv_at hl 1 rfl) ?_
    refine lv_iload_n hx hb px_d74_6 rfl (lv_at hl 2 rfl) ?_
    have hPc := hP.sub (ws' := [(h0, .inr (8, px_mf rf iv)), (rf 19, .inl (c_elements, 26, .inl g_elements)), (rf 21, .inl (c_ranks, 26, .inl g_ranks)), (rf 25, .inl (c_rankOf, 106496, .inl g_rankOf)), (rf 28, .inl (c_sizes, 4096, .inl g_sizes))]) [0, 1, 2, 3, 4] rfl
    have hDc := hD.sub (ws' := [(h0, .inr (8, px_mf rf iv)), (rf 19, .inl (c_elements, 26, .inl g_elements)), (rf 21, .inl (c_ranks, 26, .inl g_ranks)), (rf 25, .inl (c_rankOf, 106496, .inl g_rankOf)), (rf 28, .inl (c_sizes, 4096, .inl g_sizes))]) [0, 1, 2, 3, 4] (by decide) rfl
    have hKc := hK.sub (tys' := [(c_elements, .int), (c_ranks, .int), (c_rankOf, .byte), (c_sizes, .int)]) [0, 1, 2, 3] rfl
    have hFc := va_free (wc := [(h0, .inr (8, px_mf rf iv)), (rf 19, .inl (c_elements, 26, .inl g_elements)), (rf 21, .inl (c_ranks, 26, .inl g_ranks)), (rf 25, .inl (c_rankOf, 106496, .inl g_rankOf)), (rf 28, .inl (c_sizes, 4096, .inl g_sizes))]) hD hS hA [0, 1, 2, 3, 4] rfl
    refine va_calli (va_runV (As := [.int a1x, .int a2x]) (rest := []) ⟨hx, hb, hml, hown, htw⟩ (w73_met l dC dI H.size h0 rf c_elements c_ranks c_rankOf c_sizes a1x a2x iv g_elements g_ranks g_rankOf g_sizes _ hw) (cwV 2 htw (px_gv px_w569 px_w563 px_w564 px_w94 px_g73) rfl rfl rfl (by decide +kernel) ⟨Nat.le_of_ble_eq_true rfl, Nat.le_of_ble_eq_true rfl⟩) ⟨fun a U g mk q => by obtain ⟨q0, q1, qP, qK, qD, qN⟩ := q; exact ⟨q0, q1, qP, va_K.moved (u := U) (U := U.calling g mk a) (Vm.Alike.refl U.vm) qK, qD, qN.same rfl⟩, va_recv hK hP (ci := 8) (q0 := 0) rfl rfl, fun U hU hW => ⟨rfl, by rw [hU], by rw [hU]; exact hPc, va_K.moved hW.alike hKc, hDc.weaken (fun _ _ _ _ => trivial), hN.warm hW⟩⟩ rfl rfl hl.1 rfl (lv_room (Nat.le_of_ble_eq_true rfl)) px_d74_7 ⟨(Nat.le_of_ble_eq_true rfl), (Nat.le_of_ble_eq_true rfl)⟩) hS (fun q _ h => hFc q h) hFc (fun r7 u t H1 locs ht hvm hw hB hz1 hk1 hS => ?_)
    obtain ⟨v12, v13, v14, v15, v16⟩ := u
    obtain ⟨hP1, hK1, hD1⟩ := hB
    rw [ht] at hP1
    have hK1 := va_K.moved hvm.symm hK1
    obtain ⟨hP, hD⟩ := va_join (wr := []) (w1 := [(h0, .inr (8, px_mf rf v12)), (rf 19, .inl (c_elements, 26, .inl v13)), (rf 21, .inl (c_ranks, 26, .inl v14)), (rf 25, .inl (c_rankOf, 106496, .inl v15)), (rf 28, .inl (c_sizes, 4096, .inl v16))]) hP hD [0, 1, 2, 3, 4] [] rfl rfl (by decide) (by decide) hk1 hFc hP1 hD1
    generalize H1 = H at hP hS ⊢
    have hP : va_P (dC, dI) vwCl [(h0, .inr (8, px_mf rf v12)), (rf 19, .inl (c_elements, 26, .inl v13)), (rf 21, .inl (c_ranks, 26, .inl v14)), (rf 25, .inl (c_rankOf, 106496, .inl v15)), (rf 28, .inl (c_sizes, 4096, .inl v16))] H := hP
    have hD : va_D A [(h0, .inr (8, px_mf rf v12)), (rf 19, .inl (c_elements, 26, .inl v13)), (rf 21, .inl (c_ranks, 26, .inl v14)), (rf 25, .inl (c_rankOf, 106496, .inl v15)), (rf 28, .inl (c_sizes, 4096, .inl v16))] := hD
    refine lv_goto (tgt := 19) hx hb px_d74_10 (by decide) ?_
    exact S19 a1x a2x a3x r7 v12 v13 v14 v15 v16 H locs ls hP hD hS (lv_sub hl [0, 1, 2, 3] rfl) hw

/-! MatroidDeskModel.isFlat(II)Z -/
def w75_L62 (post : Int32 → (Nat → Int32) → (Nat → Int32) → (Nat → Int32) → Prop) (x1 : Int32) (x2 : Int32) (x3 : Int32) (x4 : Int32) (iv : Nat → Int32) (g_elements : Nat → Int32) (g_rankOf : Nat → Int32) : Prop := narrow .boolean (.int x3) = .int x3 ∧ post x3 iv g_elements g_rankOf
def w75_L55 (K5 : Int32 → Int32 → Int32 → Int32 → (Nat → Int32) → (Nat → Int32) → (Nat → Int32) → Prop) (post : Int32 → (Nat → Int32) → (Nat → Int32) → (Nat → Int32) → Prop) (x1 : Int32) (x2 : Int32) (x3 : Int32) (x4 : Int32) (y0 : Int32) (iv : Nat → Int32) (g_elements : Nat → Int32) (g_rankOf : Nat → Int32) : Prop := ∀ z1 : Int32, z1 = x4 + 1 → K5 x1 x2 y0 z1 iv g_elements g_rankOf
def w75_L50 (K5 : Int32 → Int32 → Int32 → Int32 → (Nat → Int32) → (Nat → Int32) → (Nat → Int32) → Prop) (post : Int32 → (Nat → Int32) → (Nat → Int32) → (Nat → Int32) → Prop) (x1 : Int32) (x2 : Int32) (x3 : Int32) (x4 : Int32) (iv : Nat → Int32) (g_elements : Nat → Int32) (g_rankOf : Nat → Int32) : Prop := w75_L55 K5 post x1 x2 x3 x4 1 iv g_elements g_rankOf
def w75_L5 (post : Int32 → (Nat → Int32) → (Nat → Int32) → (Nat → Int32) → Prop) : Nat → Int32 → Int32 → Int32 → Int32 → (Nat → Int32) → (Nat → Int32) → (Nat → Int32) → Prop
  | 0 => fun _ _ _ _ _ _ _ => False
  | k + 1 => fun x1 x2 x3 x4 iv g_elements g_rankOf => vp_in x1 26 ∧ (((g_elements (Int32.toNatClampNeg x1)) ≤ x4 → w75_L62 post x1 x2 x3 x4 iv g_elements g_rankOf) ∧ (¬ (g_elements (Int32.toNatClampNeg x1)) ≤ x4 → (x3 = 0 → w75_L62 post x1 x2 x3 x4 iv g_elements g_rankOf) ∧ (¬ x3 = 0 → (((x2 >>> (x4 &&& 31)) &&& 1) = 1 → w75_L50 (w75_L5 post k) post x1 x2 x3 x4 iv g_elements g_rankOf) ∧ (¬ ((x2 >>> (x4 &&& 31)) &&& 1) = 1 → w70_wp (fun r38 v2 v3 => w70_wp (fun r44 v4 v5 => (r38 ≤ r44 → w75_L55 (w75_L5 post k) post x1 x2 x3 x4 0 v4 g_elements v5) ∧ (¬ r38 ≤ r44 → w75_L50 (w75_L5 post k) post x1 x2 x3 x4 v4 g_elements v5)) x1 x2 v2 v3) x1 (x2 ||| (1 <<< (x4 &&& 31))) iv g_rankOf))))
def w75_wp (post : Int32 → (Nat → Int32) → (Nat → Int32) → (Nat → Int32) → Prop) (a1x : Int32) (a2x : Int32) (iv : Nat → Int32) (g_elements : Nat → Int32) (g_rankOf : Nat → Int32) : Prop := ∃ j5, w75_L5 post j5 a1x a2x 1 0 iv g_elements g_rankOf
set_option maxHeartbeats 8000000 in
set_option maxRecDepth 100000 in
theorem w75_met (l : Launch) (dC : Nat → ClassId) (dI : Nat → Nat → Nat) (sz : Nat) (h0 : Nat) (rf : Nat → Nat) (c_elements : ClassId) (c_rankOf : ClassId) (a1x : Int32) (a2x : Int32) (iv : Nat → Int32) (g_elements : Nat → Int32) (g_rankOf : Nat → Int32) (post : Int32 → (Nat → Int32) → (Nat → Int32) → (Nat → Int32) → Prop) (hw : w75_wp post a1x a2x iv g_elements g_rankOf) : Met l px_y75 px_s75 ({ frames := 1, cells := 0, slots := 0, locals := 22 }) (va_Pc [.ref h0, .int a1x, .int a2x] (fun U => U.heap.size = sz ∧ va_P (dC, dI) vwCl [(h0, .inr (8, px_mf rf iv)), (rf 19, .inl (c_elements, 26, .inl g_elements)), (rf 25, .inl (c_rankOf, 106496, .inl g_rankOf))] U.heap ∧ va_K (dC, dI) vwCl [(c_elements, .int), (c_rankOf, .byte)] U ∧ va_D (fun _ => True) [(h0, .inr (8, px_mf rf iv)), (rf 19, .inl (c_elements, 26, .inl g_elements)), (rf 25, .inl (c_rankOf, 106496, .inl g_rankOf))] ∧ px_N U)) (va_Qi (fun (r : Int32) (u : (Nat → Int32) × (Nat → Int32) × (Nat → Int32)) => post r u.1 u.2.1 u.2.2) (fun (u : (Nat → Int32) × (Nat → Int32) × (Nat → Int32)) (t : State) => va_P (dC, dI) vwCl [(h0, .inr (8, px_mf rf u.1)), (rf 19, .inl (c_elements, 26, .inl u.2.1)), (rf 25, .inl (c_rankOf, 106496, .inl u.2.2))] t.heap ∧ va_K (dC, dI) vwCl [(c_elements, .int), (c_rankOf, .byte)] t ∧ va_D (va_A [(h0, .inr (8, px_mf rf iv)), (rf 19, .inl (c_elements, 26, .inl g_elements)), (rf 25, .inl (c_rankOf, 106496, .inl g_rankOf))] sz) [(h0, .inr (8, px_mf rf u.1)), (rf 19, .inl (c_elements, 26, .inl u.2.1)), (rf 25, .inl (c_rankOf, 106496, .inl u.2.2))]) (va_A [(h0, .inr (8, px_mf rf iv)), (rf 19, .inl (c_elements, 26, .inl g_elements)), (rf 25, .inl (c_rankOf, 106496, .inl g_rankOf))] sz)) 0 0 (va_A [(h0, .inr (8, px_mf rf iv)), (rf 19, .inl (c_elements, 26, .inl g_elements)), (rf 25, .inl (c_rankOf, 106496, .inl g_rankOf))] sz) := by
  refine Met.ofW (cc := prog_15_method_30_code) (maxL := 5) (ret := (some .boolean)) (by decide) rfl ?_
  intro p e s m args below meth c s₁ B hml hv
  obtain ⟨rfl, hsz, hP, hK, hD0, hN⟩ := hv
  have hx := B.exec
  have hb := B.bytes
  have hr := B.returns
  have htw : ∀ w ∈ px_all, w.before _ s = true := fun w h => atoms_spec (ws := px_s75) B.pre w (List.mem_cons_of_mem _ h)
  have hown : s.vm.findClass "MatroidDeskModel" = some m.cls := findClass_of_methodNamed B.named
  have hlocks := B.notSynchronized
  subst hsz
  have hD := hD0.self (sz := s.heap.size)
  generalize hAe : va_A [(h0, .inr (8, px_mf rf iv)), (rf 19, .inl (c_elements, 26, .inl g_elements)), (rf 25, .inl (c_rankOf, 106496, .inl g_rankOf))] s.heap.size = A at hD ⊢
  have hA : ∀ q : Nat, s.heap.size ≤ q → A q := fun q h => by rw [← hAe]; exact Or.inr h
  have hS : va_S A s.heap s.heap [] := va_S.rf
  have hP : va_P (dC, dI) vwCl [(h0, .inr (8, px_mf rf iv)), (rf 19, .inl (c_elements, 26, .inl g_elements)), (rf 25, .inl (c_rankOf, 106496, .inl g_rankOf))] s.heap := hP
  have hl := lv_entry ([.ref h0, .int a1x, .int a2x]) (n := 5) (Nat.le_of_ble_eq_true rfl)
  rw [lg_entry_eq]
  generalize (lg_sl ([.ref h0, .int a1x, .int a2x]) ++ List.replicate (5 - (lg_sl ([.ref h0, .int a1x, .int a2x])).length) Slot.unset).toArray = ls at hl ⊢
  have hl : lv_has ls 5 [(0, .ref h0), (1, .int a1x), (2, .int a2x)] := hl
  generalize hQ : MQ _ _ _ _ _ _ _ = Q
  have S62 : ∀ (x1 : Int32) (x2 : Int32) (x3 : Int32) (x4 : Int32) (iv : Nat → Int32) (g_elements : Nat → Int32) (g_rankOf : Nat → Int32) (H : Heap) (locs : List Loc) (ls : Array Slot), va_P (dC, dI) vwCl [(h0, .inr (8, px_mf rf iv)), (rf 19, .inl (c_elements, 26, .inl g_elements)), (rf 25, .inl (c_rankOf, 106496, .inl g_rankOf))] H → va_D A [(h0, .inr (8, px_mf rf iv)), (rf 19, .inl (c_elements, 26, .inl g_elements)), (rf 25, .inl (c_rankOf, 106496, .inl g_rankOf))] → va_S A s.heap H locs → lv_has ls 5 [(0, .ref h0), (1, .int x1), (2, .int x2), (3, .int x3), (4, .int x4)] → w75_L62 post x1 x2 x3 x4 iv g_elements g_rankOf → W p l e (headSpec px_s75 ({ frames := 1, cells := 0, slots := 0, locals := 22 })).room s m ([.ref h0, .int a1x, .int a2x]).toArray below meth c H locs 0 0 Q (F0 m 62 ls []) := by
    intro x1 x2 x3 x4 iv g_elements g_rankOf H locs ls hP hD hS hl hw
    unfold w75_L62 at hw
    refine lv_iload_n hx hb px_d75_62 rfl (lv_at hl 3 rfl) ?_
    obtain ⟨hz9, hw⟩ := hw
    rw [← hQ]
    exact W.zret (v := x3) hx hb hr hz9 (fun t ht hW => ⟨⟨x3, (iv, g_elements, g_rankOf), rfl, hw, by rw [ht]; exact hP, va_K.moved hW.alike hK, hD⟩, hS.F ht⟩) hS.2.2 px_d75_63
  have S5 : ∀ (k5 : Nat) (x1 : Int32) (x2 : Int32) (x3 : Int32) (x4 : Int32) (iv : Nat → Int32) (g_elements : Nat → Int32) (g_rankOf : Nat → Int32) (H : Heap) (locs : List Loc) (ls : Array Slot), va_P (dC, dI) vwCl [(h0, .inr (8, px_mf rf iv)), (rf 19, .inl (c_elements, 26, .inl g_elements)), (rf 25, .inl (c_rankOf, 106496, .inl g_rankOf))] H → va_D A [(h0, .inr (8, px_mf rf iv)), (rf 19, .inl (c_elements, 26, .inl g_elements)), (rf 25, .inl (c_rankOf, 106496, .inl g_rankOf))] → va_S A s.heap H locs → lv_has ls 5 [(0, .ref h0), (1, .int x1), (2, .int x2), (3, .int x3), (4, .int x4)] → w75_L5 post k5 x1 x2 x3 x4 iv g_elements g_rankOf → W p l e (headSpec px_s75 ({ frames := 1, cells := 0, slots := 0, locals := 22 })).room s m ([.ref h0, .int a1x, .int a2x]).toArray below meth c H locs 0 0 Q (F0 m 5 ls []) := by
    intro k5
    induction k5 with
    | zero => intro x1 x2 x3 x4 iv g_elements g_rankOf H locs ls hP hD hS hl hw; exact False.elim hw
    | succ k5 ih5 =>
      have S55 : ∀ (x1 : Int32) (x2 : Int32) (x3 : Int32) (x4 : Int32) (y0 : Int32) (iv : Nat → Int32) (g_elements : Nat → Int32) (g_rankOf : Nat → Int32) (H : Heap) (locs : List Loc) (ls : Array Slot), va_P (dC, dI) vwCl [(h0, .inr (8, px_mf rf iv)), (rf 19, .inl (c_elements, 26, .inl g_elements)), (rf 25, .inl (c_rankOf, 106496, .inl g_rankOf))] H → va_D A [(h0, .inr (8, px_mf rf iv)), (rf 19, .inl (c_elements, 26, .inl g_elements)), (rf 25, .inl (c_rankOf, 106496, .inl g_rankOf))] → va_S A s.heap H locs → lv_has ls 5 [(0, .ref h0), (1, .int x1), (2, .int x2), (3, .int x3), (4, .int x4)] → w75_L55 (w75_L5 post k5) post x1 x2 x3 x4 y0 iv g_elements g_rankOf → W p l e (headSpec px_s75 ({ frames := 1, cells := 0, slots := 0, locals := 22 })).room s m ([.ref h0, .int a1x, .int a2x]).toArray below meth c H locs 0 0 Q (F0 m 55 ls [.int y0]) := by
        intro x1 x2 x3 x4 y0 iv g_elements g_rankOf H locs ls hP hD hS hl hw
        unfold w75_L55 at hw
        refine lv_istore_n (lv' := [(3, .int y0), (0, .ref h0), (1, .int x1), (2, .int x2), (4, .int x4)]) hx hb px_d75_55 rfl hl (by decide) rfl (fun ls hl => ?_)
        obtain ⟨z1, ez1⟩ : ∃ y : Int32, y = x4 + 1 := ⟨_, rfl⟩
        have hw := hw z1 ez1
        refine lv_iinc (v := z1) (lv' := [(4, .int z1), (3, .int y0), (0, .ref h0), (1, .int x1), (2, .int x2)]) hx hb px_d75_56 hl (k := 4) rfl (by rw [ez1]; rfl) (by decide) rfl (fun ls hl => ?_)
        refine lv_goto (tgt := 5) hx hb px_d75_59 (by decide) ?_
        exact ih5 x1 x2 y0 z1 iv g_elements g_rankOf H locs ls hP hD hS (lv_sub hl [2, 3, 4, 1, 0] rfl) hw
      have S50 : ∀ (x1 : Int32) (x2 : Int32) (x3 : Int32) (x4 : Int32) (iv : Nat → Int32) (g_elements : Nat → Int32) (g_rankOf : Nat → Int32) (H : Heap) (locs : List Loc) (ls : Array Slot), va_P (dC, dI) vwCl [(h0, .inr (8, px_mf rf iv)), (rf 19, .inl (c_elements, 26, .inl g_elements)), (rf 25, .inl (c_rankOf, 106496, .inl g_rankOf))] H → va_D A [(h0, .inr (8, px_mf rf iv)), (rf 19, .inl (c_elements, 26, .inl g_elements)), (rf 25, .inl (c_rankOf, 106496, .inl g_rankOf))] → va_S A s.heap H locs → lv_has ls 5 [(0, .ref h0), (1, .int x1), (2, .int x2), (3, .int x3), (4, .int x4)] → w75_L50 (w75_L5 post k5) post x1 x2 x3 x4 iv g_elements g_rankOf → W p l e (headSpec px_s75 ({ frames := 1, cells := 0, slots := 0, locals := 22 })).room s m ([.ref h0, .int a1x, .int a2x]).toArray below meth c H locs 0 0 Q (F0 m 50 ls []) := by
        intro x1 x2 x3 x4 iv g_elements g_rankOf H locs ls hP hD hS hl hw
        unfold w75_L50 at hw
        refine lv_iconst (v := 1) hx hb px_d75_50 (by decide) ?_
        refine lv_goto (tgt := 55) hx hb px_d75_51 (by decide) ?_
        exact S55 x1 x2 x3 x4 1 iv g_elements g_rankOf H locs ls hP hD hS (lv_sub hl [0, 1, 2, 3, 4] rfl) hw
      intro x1 x2 x3 x4 iv g_elements g_rankOf H locs ls hP hD hS hl hw
      unfold w75_L5 at hw
      refine lv_iload hx hb px_d75_5 (lv_at hl 4 rfl) ?_
      refine lv_aload_n hx hb px_d75_7 rfl (lv_at hl 0 rfl) ?_
      refine va_get (D := (dC, dI)) (ci := 8) (v := .ref (rf 19)) (C := "MatroidDeskModel") (T := px_T8) (N := 53) hx hb htw px_in8 hown hK hP 0 rfl rfl 19 (by decide) (htw _ px_w502) (fun _ h9 => h9) rfl px_d75_8 ?_
      refine lv_iload_n hx hb px_d75_11 rfl (lv_at hl 1 rfl) ?_
      obtain ⟨hi12, hw⟩ := hw
      refine va_iald hx hb hK hP 1 0 rfl rfl hi12 px_d75_12 ?_
      refine lv_icmp_ge (tgt := 62) hx hb px_d75_13 (by decide) (fun c13 => ?_) (fun c13 => ?_)
      · have hw := hw.1 c13
        exact S62 x1 x2 x3 x4 iv g_elements g_rankOf H locs ls hP hD hS (lv_sub hl [0, 1, 2, 3, 4] rfl) hw
      · have hw := hw.2 c13
        refine lv_iload_n hx hb px_d75_16 rfl (lv_at hl 3 rfl) ?_
        refine lv_if_eq (tgt := 62) hx hb px_d75_17 (by decide) (fun c17 => ?_) (fun c17 => ?_)
        · have hw := hw.1 c17
          exact S62 x1 x2 x3 x4 iv g_elements g_rankOf H locs ls hP hD hS (lv_sub hl [0, 1, 2, 3, 4] rfl) hw
        · have hw := hw.2 c17
          refine lv_iload_n hx hb px_d75_20 rfl (lv_at hl 2 rfl) ?_
          refine lv_iload hx hb px_d75_21 (lv_at hl 4 rfl) ?_
          refine lv_ishr hx hb px_d75_23 ?_
          refine lv_iconst (v := 1) hx hb px_d75_24 (by decide) ?_
          refine lv_iand hx hb px_d75_25 ?_
          refine lv_iconst (v := 1) hx hb px_d75_26 (by decide) ?_
          refine lv_icmp_eq (tgt := 50) hx hb px_d75_27 (by decide) (fun c27 => ?_) (fun c27 => ?_)
          · have hw := hw.1 c27
            exact S50 x1 x2 x3 x4 iv g_elements g_rankOf H locs ls hP hD hS (lv_sub hl [0, 1, 2, 3, 4] rfl) hw
          · have hw := hw.2 c27
            refine lv_aload_n hx hb px_d75_30 rfl (lv_at hl 0 rfl) ?_
            refine lv_iload_n hx hb px_d75_31 rfl (lv_at hl 1 rfl) ?_
            refine lv_iload_n hx hb px_d75_32 rfl (lv_at hl 2 rfl) ?_
            refine lv_iconst (v := 1) hx hb px_d75_33 (by decide) ?_
            refine lv_iload hx hb px_d75_34 (lv_at hl 4 rfl) ?_
            refine lv_ishl hx hb px_d75_36 ?_
            refine lv_ior hx hb px_d75_37 ?_
            have hPc := hP.sub (ws' := [(h0, .inr (8, px_mf rf iv)), (rf 25, .inl (c_rankOf, 106496, .inl g_rankOf))]) [0, 2] rfl
            have hDc := hD.sub (ws' := [(h0, .inr (8, px_mf rf iv)), (rf 25, .inl (c_rankOf, 106496, .inl g_rankOf))]) [0, 2] (by decide) rfl
            have hKc := hK.sub (tys' := [(c_rankOf, .byte)]) [1] rfl
            have hFc := va_free (wc := [(h0, .inr (8, px_mf rf iv)), (rf 25, .inl (c_rankOf, 106496, .inl g_rankOf))]) hD hS hA [0, 2] rfl
            refine va_calli (va_runV (As := [.int x1, .int (x2 ||| (1 <<< (x4 &&& 31)))]) (rest := []) ⟨hx, hb, hml, hown, htw⟩ (w70_met l dC dI H.size h0 rf c_rankOf x1 (x2 ||| (1 <<< (x4 &&& 31))) iv g_rankOf _ hw) (cwV 2 htw (px_gv px_w561 px_w553 px_w554 px_w94 px_g70) rfl rfl rfl (by decide +kernel) ⟨Nat.le_of_ble_eq_true rfl, Nat.le_of_ble_eq_true rfl⟩) ⟨fun a U g mk q => by obtain ⟨q0, q1, qP, qK, qD, qN⟩ := q; exact ⟨q0, q1, qP, va_K.moved (u := U) (U := U.calling g mk a) (Vm.Alike.refl U.vm) qK, qD, qN.same rfl⟩, va_recv hK hP (ci := 8) (q0 := 0) rfl rfl, fun U hU hW => ⟨rfl, by rw [hU], by rw [hU]; exact hPc, va_K.moved hW.alike hKc, hDc.weaken (fun _ _ _ _ => trivial), hN.warm hW⟩⟩ rfl rfl hl.1 rfl (lv_room (Nat.le_of_ble_eq_true rfl)) px_d75_38 ⟨(Nat.le_of_ble_eq_true rfl), (Nat.le_of_ble_eq_true rfl)⟩) hS (fun q _ h => hFc q h) hFc (fun r38 u t H1 locs ht hvm hw hB hz1 hk1 hS => ?_)
            obtain ⟨v2, v3⟩ := u
            obtain ⟨hP1, hK1, hD1⟩ := hB
            rw [ht] at hP1
            have hK1 := va_K.moved hvm.symm hK1
            obtain ⟨hP, hD⟩ := va_join (wr := [(rf 19, .inl (c_elements, 26, .inl g_elements))]) (w1 := [(h0, .inr (8, px_mf rf v2)), (rf 25, .inl (c_rankOf, 106496, .inl v3))]) hP hD [0, 2] [1] rfl rfl (by decide) (by decide) hk1 hFc hP1 hD1
            generalize H1 = H at hP hS ⊢
            have hP : va_P (dC, dI) vwCl [(rf 19, .inl (c_elements, 26, .inl g_elements)), (h0, .inr (8, px_mf rf v2)), (rf 25, .inl (c_rankOf, 106496, .inl v3))] H := hP
            have hD : va_D A [(rf 19, .inl (c_elements, 26, .inl g_elements)), (h0, .inr (8, px_mf rf v2)), (rf 25, .inl (c_rankOf, 106496, .inl v3))] := hD
            have hP := hP.sub (ws' := [(h0, .inr (8, px_mf rf v2)), (rf 19, .inl (c_elements, 26, .inl g_elements)), (rf 25, .inl (c_rankOf, 106496, .inl v3))]) [1, 0, 2] rfl
            have hD := hD.sub (ws' := [(h0, .inr (8, px_mf rf v2)), (rf 19, .inl (c_elements, 26, .inl g_elements)), (rf 25, .inl (c_rankOf, 106496, .inl v3))]) [1, 0, 2] (by decide) rfl
            refine lv_aload_n hx hb px_d75_41 rfl (lv_at hl 0 rfl) ?_
            refine lv_iload_n hx hb px_d75_42 rfl (lv_at hl 1 rfl) ?_
            refine lv_iload_n hx hb px_d75_43 rfl (lv_at hl 2 rfl) ?_
            have hPc := hP.sub (ws' := [(h0, .inr (8, px_mf rf v2)), (rf 25, .inl (c_rankOf, 106496, .inl v3))]) [0, 2] rfl
            have hDc := hD.sub (ws' := [(h0, .inr (8, px_mf rf v2)), (rf 25, .inl (c_rankOf, 106496, .inl v3))]) [0, 2] (by decide) rfl
            have hKc := hK.sub (tys' := [(c_rankOf, .byte)]) [1] rfl
            have hFc := va_free (wc := [(h0, .inr (8, px_mf rf v2)), (rf 25, .inl (c_rankOf, 106496, .inl v3))]) hD hS hA [0, 2] rfl
            refine va_calli (va_runV (As := [.int x1, .int x2]) (rest := [.int r38]) ⟨hx, hb, hml, hown, htw⟩ (w70_met l dC dI H.size h0 rf c_rankOf x1 x2 v2 v3 _ hw) (cwV 2 htw (px_gv px_w561 px_w553 px_w554 px_w94 px_g70) rfl rfl rfl (by decide +kernel) ⟨Nat.le_of_ble_eq_true rfl, Nat.le_of_ble_eq_true rfl⟩) ⟨fun a U g mk q => by obtain ⟨q0, q1, qP, qK, qD, qN⟩ := q; exact ⟨q0, q1, qP, va_K.moved (u := U) (U := U.calling g mk a) (Vm.Alike.refl U.vm) qK, qD, qN.same rfl⟩, va_recv hK hP (ci := 8) (q0 := 0) rfl rfl, fun U hU hW => ⟨rfl, by rw [hU], by rw [hU]; exact hPc, va_K.moved hW.alike hKc, hDc.weaken (fun _ _ _ _ => trivial), hN.warm hW⟩⟩ rfl rfl hl.1 rfl (lv_room (Nat.le_of_ble_eq_true rfl)) px_d75_44 ⟨(Nat.le_of_ble_eq_true rfl), (Nat.le_of_ble_eq_true rfl)⟩) hS (fun q _ h => hFc q h) hFc (fun r44 u t H1 locs ht hvm hw hB hz1 hk1 hS => ?_)
            obtain ⟨v4, v5⟩ := u
            obtain ⟨hP1, hK1, hD1⟩ := hB
            rw [ht] at hP1
            have hK1 := va_K.moved hvm.symm hK1
            obtain ⟨hP, hD⟩ := va_join (wr := [(rf 19, .inl (c_elements, 26, .inl g_elements))]) (w1 := [(h0, .inr (8, px_mf rf v4)), (rf 25, .inl (c_rankOf, 106496, .inl v5))]) hP hD [0, 2] [1] rfl rfl (by decide) (by decide) hk1 hFc hP1 hD1
            generalize H1 = H at hP hS ⊢
            have hP : va_P (dC, dI) vwCl [(rf 19, .inl (c_elements, 26, .inl g_elements)), (h0, .inr (8, px_mf rf v4)), (rf 25, .inl (c_rankOf, 106496, .inl v5))] H := hP
            have hD : va_D A [(rf 19, .inl (c_elements, 26, .inl g_elements)), (h0, .inr (8, px_mf rf v4)), (rf 25, .inl (c_rankOf, 106496, .inl v5))] := hD
            have hP := hP.sub (ws' := [(h0, .inr (8, px_mf rf v4)), (rf 19, .inl (c_elements, 26, .inl g_elements)), (rf 25, .inl (c_rankOf, 106496, .inl v5))]) [1, 0, 2] rfl
            have hD := hD.sub (ws' := [(h0, .inr (8, px_mf rf v4)), (rf 19, .inl (c_elements, 26, .inl g_elements)), (rf 25, .inl (c_rankOf, 106496, .inl v5))]) [1, 0, 2] (by decide) rfl
            refine lv_icmp_le (tgt := 54) hx hb px_d75_47 (by decide) (fun c47 => ?_) (fun c47 => ?_)
            · have hw := hw.1 c47
              refine lv_iconst (v := 0) hx hb px_d75_54 (by decide) ?_
              exact S55 x1 x2 x3 x4 0 v4 g_elements v5 H locs ls hP hD hS (lv_sub hl [0, 1, 2, 3, 4] rfl) hw
            · have hw := hw.2 c47
              exact S50 x1 x2 x3 x4 v4 g_elements v5 H locs ls hP hD hS (lv_sub hl [0, 1, 2, 3, 4] rfl) hw
  unfold w75_wp at hw
  have hS0 := hS
  obtain ⟨H, hH9⟩ : ∃ z, z = s.heap := ⟨_, rfl⟩
  have hP : va_P (dC, dI) vwCl [(h0, .inr (8, px_mf rf iv)), (rf 19, .inl (c_elements, 26, .inl g_elements)), (rf 25, .inl (c_rankOf, 106496, .inl g_rankOf))] H := by rw [hH9]; exact hP
  obtain ⟨locs, hlo9⟩ : ∃ z : List Loc, z = [] := ⟨_, rfl⟩
  have hS : va_S A s.heap H locs := by rw [hH9, hlo9]; exact hS
  suffices hG : W p l e (headSpec px_s75 ({ frames := 1, cells := 0, slots := 0, locals := 22 })).room s m ([.ref h0, .int a1x, .int a2x]).toArray below meth c H locs 0 0 Q (F0 m 0 ls []) by rw [hH9, hlo9] at hG; exact hG
  refine lv_iconst (v := 1) hx hb px_d75_0 (by decide) ?_
  refine lv_istore_n (lv' := [(3, .int 1), (0, .ref h0), (1, .int a1x), (2, .int a2x)]) hx hb px_d75_1 rfl hl (by decide) rfl (fun ls hl => ?_)
  refine lv_iconst (v := 0) hx hb px_d75_2 (by decide) ?_
  refine lv_istore (lv' := [(4, .int 0), (3, .int 1), (0, .ref h0), (1, .int a1x), (2, .int a2x)]) hx hb px_d75_3 hl (by decide) rfl (fun ls hl => ?_)
  obtain ⟨k9, hw⟩ := hw
  exact S5 k9 a1x a2x 1 0 iv g_elements g_rankOf H locs ls hP hD hS (lv_sub hl [2, 3, 4, 1, 0] rfl) hw

/-! MatroidDeskModel.isOf(III)Z -/
def w76_L66 (post : Int32 → (Nat → Int32) → (Nat → Int32) → (Nat → Int32) → (Nat → Int32) → (Nat → Int32) → Prop) (x1 : Int32) (x2 : Int32) (x3 : Int32) (y0 : Int32) (iv : Nat → Int32) (g_elements : Nat → Int32) (g_ranks : Nat → Int32) (g_rankOf : Nat → Int32) (g_sizes : Nat → Int32) : Prop := narrow .boolean (.int y0) = .int y0 ∧ post y0 iv g_elements g_ranks g_rankOf g_sizes
def w76_L63 (post : Int32 → (Nat → Int32) → (Nat → Int32) → (Nat → Int32) → (Nat → Int32) → (Nat → Int32) → Prop) (x1 : Int32) (x2 : Int32) (x3 : Int32) (y0 : Int32) (y1 : Int32) (y2 : Int32) (iv : Nat → Int32) (g_elements : Nat → Int32) (g_ranks : Nat → Int32) (g_rankOf : Nat → Int32) (g_sizes : Nat → Int32) : Prop := w74_wp (fun r63 v1 v2 v3 v4 v5 => w76_L66 post x1 x2 x3 r63 v1 v2 v3 v4 v5) y2 y1 y0 iv g_elements g_ranks g_rankOf g_sizes
def w76_L32 (post : Int32 → (Nat → Int32) → (Nat → Int32) → (Nat → Int32) → (Nat → Int32) → (Nat → Int32) → Prop) (x1 : Int32) (x2 : Int32) (x3 : Int32) (iv : Nat → Int32) (g_elements : Nat → Int32) (g_ranks : Nat → Int32) (g_rankOf : Nat → Int32) (g_sizes : Nat → Int32) : Prop := w76_L66 post x1 x2 x3 0 iv g_elements g_ranks g_rankOf g_sizes
def w76_wp (post : Int32 → (Nat → Int32) → (Nat → Int32) → (Nat → Int32) → (Nat → Int32) → (Nat → Int32) → Prop) (a1x : Int32) (a2x : Int32) (a3x : Int32) (iv : Nat → Int32) (g_elements : Nat → Int32) (g_ranks : Nat → Int32) (g_rankOf : Nat → Int32) (g_sizes : Nat → Int32) : Prop := (¬ a2x = 0 → (¬ a2x = 3 → (¬ a2x = 2 → w76_L63 post a1x a2x a3x 0 a3x a1x iv g_elements g_ranks g_rankOf g_sizes) ∧ (a2x = 2 → w76_L63 post a1x a2x a3x 1 a3x a1x iv g_elements g_ranks g_rankOf g_sizes)) ∧ (a2x = 3 → w75_wp (fun r44 v6 v7 v8 => w76_L66 post a1x a2x a3x r44 v6 v7 g_ranks v8 g_sizes) a1x a3x iv g_elements g_rankOf)) ∧ (a2x = 0 → vp_in a3x 4096 ∧ (vp_in a1x 26 ∧ ((¬ (g_sizes (Int32.toNatClampNeg a3x)) = (g_ranks (Int32.toNatClampNeg a1x)) → w76_L32 post a1x a2x a3x iv g_elements g_ranks g_rankOf g_sizes) ∧ ((g_sizes (Int32.toNatClampNeg a3x)) = (g_ranks (Int32.toNatClampNeg a1x)) → w72_wp (fun r22 v9 v10 v11 => (r22 = 0 → w76_L32 post a1x a2x a3x v9 g_elements g_ranks v10 v11) ∧ (¬ r22 = 0 → w76_L66 post a1x a2x a3x 1 v9 g_elements g_ranks v10 v11)) a1x a3x iv g_rankOf g_sizes))))
set_option maxHeartbeats 8000000 in
set_option maxRecDepth 100000 in
theorem w76_met (l : Launch) (dC : Nat → ClassId) (dI : Nat → Nat → Nat) (sz : Nat) (h0 : Nat) (rf : Nat → Nat) (c_elements : ClassId) (c_ranks : ClassId) (c_rankOf : ClassId) (c_sizes : ClassId) (a1x : Int32) (a2x : Int32) (a3x : Int32) (iv : Nat → Int32) (g_elements : Nat → Int32) (g_ranks : Nat → Int32) (g_rankOf : Nat → Int32) (g_sizes : Nat → Int32) (post : Int32 → (Nat → Int32) → (Nat → Int32) → (Nat → Int32) → (Nat → Int32) → (Nat → Int32) → Prop) (hw : w76_wp post a1x a2x a3x iv g_elements g_ranks g_rankOf g_sizes) : Met l px_y76 px_s76 ({ frames := 3, cells := 0, slots := 0, locals := 70 }) (va_Pc [.ref h0, .int a1x, .int a2x, .int a3x] (fun U => U.heap.size = sz ∧ va_P (dC, dI) vwCl [(h0, .inr (8, px_mf rf iv)), (rf 19, .inl (c_elements, 26, .inl g_elements)), (rf 21, .inl (c_ranks, 26, .inl g_ranks)), (rf 25, .inl (c_rankOf, 106496, .inl g_rankOf)), (rf 28, .inl (c_sizes, 4096, .inl g_sizes))] U.heap ∧ va_K (dC, dI) vwCl [(c_elements, .int), (c_ranks, .int), (c_rankOf, .byte), (c_sizes, .int)] U ∧ va_D (fun _ => True) [(h0, .inr (8, px_mf rf iv)), (rf 19, .inl (c_elements, 26, .inl g_elements)), (rf 21, .inl (c_ranks, 26, .inl g_ranks)), (rf 25, .inl (c_rankOf, 106496, .inl g_rankOf)), (rf 28, .inl (c_sizes, 4096, .inl g_sizes))] ∧ px_N U)) (va_Qi (fun (r : Int32) (u : (Nat → Int32) × (Nat → Int32) × (Nat → Int32) × (Nat → Int32) × (Nat → Int32)) => post r u.1 u.2.1 u.2.2.1 u.2.2.2.1 u.2.2.2.2) (fun (u : (Nat → Int32) × (Nat → Int32) × (Nat → Int32) × (Nat → Int32) × (Nat → Int32)) (t : State) => va_P (dC, dI) vwCl [(h0, .inr (8, px_mf rf u.1)), (rf 19, .inl (c_elements, 26, .inl u.2.1)), (rf 21, .inl (c_ranks, 26, .inl u.2.2.1)), (rf 25, .inl (c_rankOf, 106496, .inl u.2.2.2.1)), (rf 28, .inl (c_sizes, 4096, .inl u.2.2.2.2))] t.heap ∧ va_K (dC, dI) vwCl [(c_elements, .int), (c_ranks, .int), (c_rankOf, .byte), (c_sizes, .int)] t ∧ va_D (va_A [(h0, .inr (8, px_mf rf iv)), (rf 19, .inl (c_elements, 26, .inl g_elements)), (rf 21, .inl (c_ranks, 26, .inl g_ranks)), (rf 25, .inl (c_rankOf, 106496, .inl g_rankOf)), (rf 28, .inl (c_sizes, 4096, .inl g_sizes))] sz) [(h0, .inr (8, px_mf rf u.1)), (rf 19, .inl (c_elements, 26, .inl u.2.1)), (rf 21, .inl (c_ranks, 26, .inl u.2.2.1)), (rf 25, .inl (c_rankOf, 106496, .inl u.2.2.2.1)), (rf 28, .inl (c_sizes, 4096, .inl u.2.2.2.2))]) (va_A [(h0, .inr (8, px_mf rf iv)), (rf 19, .inl (c_elements, 26, .inl g_elements)), (rf 21, .inl (c_ranks, 26, .inl g_ranks)), (rf 25, .inl (c_rankOf, 106496, .inl g_rankOf)), (rf 28, .inl (c_sizes, 4096, .inl g_sizes))] sz)) 0 0 (va_A [(h0, .inr (8, px_mf rf iv)), (rf 19, .inl (c_elements, 26, .inl g_elements)), (rf 21, .inl (c_ranks, 26, .inl g_ranks)), (rf 25, .inl (c_rankOf, 106496, .inl g_rankOf)), (rf 28, .inl (c_sizes, 4096, .inl g_sizes))] sz) := by
  refine Met.ofW (cc := prog_15_method_31_code) (maxL := 4) (ret := (some .boolean)) (by decide) rfl ?_
  intro p e s m args below meth c s₁ B hml hv
  obtain ⟨rfl, hsz, hP, hK, hD0, hN⟩ := hv
  have hx := B.exec
  have hb := B.bytes
  have hr := B.returns
  have htw : ∀ w ∈ px_all, w.before _ s = true := fun w h => atoms_spec (ws := px_s76) B.pre w (List.mem_cons_of_mem _ h)
  have hown : s.vm.findClass "MatroidDeskModel" = some m.cls := findClass_of_methodNamed B.named
  have hlocks := B.notSynchronized
  subst hsz
  have hD := hD0.self (sz := s.heap.size)
  generalize hAe : va_A [(h0, .inr (8, px_mf rf iv)), (rf 19, .inl (c_elements, 26, .inl g_elements)), (rf 21, .inl (c_ranks, 26, .inl g_ranks)), (rf 25, .inl (c_rankOf, 106496, .inl g_rankOf)), (rf 28, .inl (c_sizes, 4096, .inl g_sizes))] s.heap.size = A at hD ⊢
  have hA : ∀ q : Nat, s.heap.size ≤ q → A q := fun q h => by rw [← hAe]; exact Or.inr h
  have hS : va_S A s.heap s.heap [] := va_S.rf
  have hP : va_P (dC, dI) vwCl [(h0, .inr (8, px_mf rf iv)), (rf 19, .inl (c_elements, 26, .inl g_elements)), (rf 21, .inl (c_ranks, 26, .inl g_ranks)), (rf 25, .inl (c_rankOf, 106496, .inl g_rankOf)), (rf 28, .inl (c_sizes, 4096, .inl g_sizes))] s.heap := hP
  have hl := lv_entry ([.ref h0, .int a1x, .int a2x, .int a3x]) (n := 4) (Nat.le_of_ble_eq_true rfl)
  rw [lg_entry_eq]
  generalize (lg_sl ([.ref h0, .int a1x, .int a2x, .int a3x]) ++ List.replicate (4 - (lg_sl ([.ref h0, .int a1x, .int a2x, .int a3x])).length) Slot.unset).toArray = ls at hl ⊢
  have hl : lv_has ls 4 [(0, .ref h0), (1, .int a1x), (2, .int a2x), (3, .int a3x)] := hl
  generalize hQ : MQ _ _ _ _ _ _ _ = Q
  have S66 : ∀ (x1 : Int32) (x2 : Int32) (x3 : Int32) (y0 : Int32) (iv : Nat → Int32) (g_elements : Nat → Int32) (g_ranks : Nat → Int32) (g_rankOf : Nat → Int32) (g_sizes : Nat → Int32) (H : Heap) (locs : List Loc) (ls : Array Slot), va_P (dC, dI) vwCl [(h0, .inr (8, px_mf rf iv)), (rf 19, .inl (c_elements, 26, .inl g_elements)), (rf 21, .inl (c_ranks, 26, .inl g_ranks)), (rf 25, .inl (c_rankOf, 106496, .inl g_rankOf)), (rf 28, .inl (c_sizes, 4096, .inl g_sizes))] H → va_D A [(h0, .inr (8, px_mf rf iv)), (rf 19, .inl (c_elements, 26, .inl g_elements)), (rf 21, .inl (c_ranks, 26, .inl g_ranks)), (rf 25, .inl (c_rankOf, 106496, .inl g_rankOf)), (rf 28, .inl (c_sizes, 4096, .inl g_sizes))] → va_S A s.heap H locs → lv_has ls 4 [(0, .ref h0), (1, .int x1), (2, .int x2), (3, .int x3)] → w76_L66 post x1 x2 x3 y0 iv g_elements g_ranks g_rankOf g_sizes → W p l e (headSpec px_s76 ({ frames := 3, cells := 0, slots := 0, locals := 70 })).room s m ([.ref h0, .int a1x, .int a2x, .int a3x]).toArray below meth c H locs 0 0 Q (F0 m 66 ls [.int y0]) := by
    intro x1 x2 x3 y0 iv g_elements g_ranks g_rankOf g_sizes H locs ls hP hD hS hl hw
    unfold w76_L66 at hw
    obtain ⟨hz9, hw⟩ := hw
    rw [← hQ]
    exact W.zret (v := y0) hx hb hr hz9 (fun t ht hW => ⟨⟨y0, (iv, g_elements, g_ranks, g_rankOf, g_sizes), rfl, hw, by rw [ht]; exact hP, va_K.moved hW.alike hK, hD⟩, hS.F ht⟩) hS.2.2 px_d76_66
  have S63 : ∀ (x1 : Int32) (x2 : Int32) (x3 : Int32) (y0 : Int32) (y1 : Int32) (y2 : Int32) (iv : Nat → Int32) (g_elements : Nat → Int32) (g_ranks : Nat → Int32) (g_rankOf : Nat → Int32) (g_sizes : Nat → Int32) (H : Heap) (locs : List Loc) (ls : Array Slot), va_P (dC, dI) vwCl [(h0, .inr (8, px_mf rf iv)), (rf 19, .inl (c_elements, 26, .inl g_elements)), (rf 21, .inl (c_ranks, 26, .inl g_ranks)), (rf 25, .inl (c_rankOf, 106496, .inl g_rankOf)), (rf 28, .inl (c_sizes, 4096, .inl g_sizes))] H → va_D A [(h0, .inr (8, px_mf rf iv)), (rf 19, .inl (c_elements, 26, .inl g_elements)), (rf 21, .inl (c_ranks, 26, .inl g_ranks)), (rf 25, .inl (c_rankOf, 106496, .inl g_rankOf)), (rf 28, .inl (c_sizes, 4096, .inl g_sizes))] → va_S A s.heap H locs → lv_has ls 4 [(0, .ref h0), (1, .int x1), (2, .int x2), (3, .int x3)] → w76_L63 post x1 x2 x3 y0 y1 y2 iv g_elements g_ranks g_rankOf g_sizes → W p l e (headSpec px_s76 ({ frames := 3, cells := 0, slots := 0, locals := 70 })).room s m ([.ref h0, .int a1x, .int a2x, .int a3x]).toArray below meth c H locs 0 0 Q (F0 m 63 ls [.int y0, .int y1, .int y2, .ref h0]) := by
    intro x1 x2 x3 y0 y1 y2 iv g_elements g_ranks g_rankOf g_sizes H locs ls hP hD hS hl hw
    unfold w76_L63 at hw
    have hPc := hP.sub (ws' := [(h0, .inr (8, px_mf rf iv)), (rf 19, .inl (c_elements, 26, .inl g_elements)), (rf 21, .inl (c_ranks, 26, .inl g_ranks)), (rf 25, .inl (c_rankOf, 106496, .inl g_rankOf)), (rf 28, .inl (c_sizes, 4096, .inl g_sizes))]) [0, 1, 2, 3, 4] rfl
    have hDc := hD.sub (ws' := [(h0, .inr (8, px_mf rf iv)), (rf 19, .inl (c_elements, 26, .inl g_elements)), (rf 21, .inl (c_ranks, 26, .inl g_ranks)), (rf 25, .inl (c_rankOf, 106496, .inl g_rankOf)), (rf 28, .inl (c_sizes, 4096, .inl g_sizes))]) [0, 1, 2, 3, 4] (by decide) rfl
    have hKc := hK.sub (tys' := [(c_elements, .int), (c_ranks, .int), (c_rankOf, .byte), (c_sizes, .int)]) [0, 1, 2, 3] rfl
    have hFc := va_free (wc := [(h0, .inr (8, px_mf rf iv)), (rf 19, .inl (c_elements, 26, .inl g_elements)), (rf 21, .inl (c_ranks, 26, .inl g_ranks)), (rf 25, .inl (c_rankOf, 106496, .inl g_rankOf)), (rf 28, .inl (c_sizes, 4096, .inl g_sizes))]) hD hS hA [0, 1, 2, 3, 4] rfl
    refine va_calli (va_runV (As := [.int y2, .int y1, .int y0]) (rest := []) ⟨hx, hb, hml, hown, htw⟩ (w74_met l dC dI H.size h0 rf c_elements c_ranks c_rankOf c_sizes y2 y1 y0 iv g_elements g_ranks g_rankOf g_sizes _ hw) (cwV 3 htw (px_gv px_w578 px_w567 px_w568 px_w94 px_g74) rfl rfl rfl (by decide +kernel) ⟨Nat.le_of_ble_eq_true rfl, Nat.le_of_ble_eq_true rfl⟩) ⟨fun a U g mk q => by obtain ⟨q0, q1, qP, qK, qD, qN⟩ := q; exact ⟨q0, q1, qP, va_K.moved (u := U) (U := U.calling g mk a) (Vm.Alike.refl U.vm) qK, qD, qN.same rfl⟩, va_recv hK hP (ci := 8) (q0 := 0) rfl rfl, fun U hU hW => ⟨rfl, by rw [hU], by rw [hU]; exact hPc, va_K.moved hW.alike hKc, hDc.weaken (fun _ _ _ _ => trivial), hN.warm hW⟩⟩ rfl rfl hl.1 rfl (lv_room (Nat.le_of_ble_eq_true rfl)) px_d76_63 ⟨(Nat.le_of_ble_eq_true rfl), (Nat.le_of_ble_eq_true rfl)⟩) hS (fun q _ h => hFc q h) hFc (fun r63 u t H1 locs ht hvm hw hB hz1 hk1 hS => ?_)
    obtain ⟨v1, v2, v3, v4, v5⟩ := u
    obtain ⟨hP1, hK1, hD1⟩ := hB
    rw [ht] at hP1
    have hK1 := va_K.moved hvm.symm hK1
    obtain ⟨hP, hD⟩ := va_join (wr := []) (w1 := [(h0, .inr (8, px_mf rf v1)), (rf 19, .inl (c_elements, 26, .inl v2)), (rf 21, .inl (c_ranks, 26, .inl v3)), (rf 25, .inl (c_rankOf, 106496, .inl v4)), (rf 28, .inl (c_sizes, 4096, .inl v5))]) hP hD [0, 1, 2, 3, 4] [] rfl rfl (by decide) (by decide) hk1 hFc hP1 hD1
    generalize H1 = H at hP hS ⊢
    have hP : va_P (dC, dI) vwCl [(h0, .inr (8, px_mf rf v1)), (rf 19, .inl (c_elements, 26, .inl v2)), (rf 21, .inl (c_ranks, 26, .inl v3)), (rf 25, .inl (c_rankOf, 106496, .inl v4)), (rf 28, .inl (c_sizes, 4096, .inl v5))] H := hP
    have hD : va_D A [(h0, .inr (8, px_mf rf v1)), (rf 19, .inl (c_elements, 26, .inl v2)), (rf 21, .inl (c_ranks, 26, .inl v3)), (rf 25, .inl (c_rankOf, 106496, .inl v4)), (rf 28, .inl (c_sizes, 4096, .inl v5))] := hD
    exact S66 x1 x2 x3 r63 v1 v2 v3 v4 v5 H locs ls hP hD hS (lv_sub hl [0, 1, 2, 3] rfl) hw
  have S32 : ∀ (x1 : Int32) (x2 : Int32) (x3 : Int32) (iv : Nat → Int32) (g_elements : Nat → Int32) (g_ranks : Nat → Int32) (g_rankOf : Nat → Int32) (g_sizes : Nat → Int32) (H : Heap) (locs : List Loc) (ls : Array Slot), va_P (dC, dI) vwCl [(h0, .inr (8, px_mf rf iv)), (rf 19, .inl (c_elements, 26, .inl g_elements)), (rf 21, .inl (c_ranks, 26, .inl g_ranks)), (rf 25, .inl (c_rankOf, 106496, .inl g_rankOf)), (rf 28, .inl (c_sizes, 4096, .inl g_sizes))] H → va_D A [(h0, .inr (8, px_mf rf iv)), (rf 19, .inl (c_elements, 26, .inl g_elements)), (rf 21, .inl (c_ranks, 26, .inl g_ranks)), (rf 25, .inl (c_rankOf, 106496, .inl g_rankOf)), (rf 28, .inl (c_sizes, 4096, .inl g_sizes))] → va_S A s.heap H locs → lv_has ls 4 [(0, .ref h0), (1, .int x1), (2, .int x2), (3, .int x3)] → w76_L32 post x1 x2 x3 iv g_elements g_ranks g_rankOf g_sizes → W p l e (headSpec px_s76 ({ frames := 3, cells := 0, slots := 0, locals := 70 })).room s m ([.ref h0, .int a1x, .int a2x, .int a3x]).toArray below meth c H locs 0 0 Q (F0 m 32 ls []) := by
    intro x1 x2 x3 iv g_elements g_ranks g_rankOf g_sizes H locs ls hP hD hS hl hw
    unfold w76_L32 at hw
    refine lv_iconst (v := 0) hx hb px_d76_32 (by decide) ?_
    refine lv_goto (tgt := 66) hx hb px_d76_33 (by decide) ?_
    exact S66 x1 x2 x3 0 iv g_elements g_ranks g_rankOf g_sizes H locs ls hP hD hS (lv_sub hl [0, 1, 2, 3] rfl) hw
  unfold w76_wp at hw
  have hS0 := hS
  obtain ⟨H, hH9⟩ : ∃ z, z = s.heap := ⟨_, rfl⟩
  have hP : va_P (dC, dI) vwCl [(h0, .inr (8, px_mf rf iv)), (rf 19, .inl (c_elements, 26, .inl g_elements)), (rf 21, .inl (c_ranks, 26, .inl g_ranks)), (rf 25, .inl (c_rankOf, 106496, .inl g_rankOf)), (rf 28, .inl (c_sizes, 4096, .inl g_sizes))] H := by rw [hH9]; exact hP
  obtain ⟨locs, hlo9⟩ : ∃ z : List Loc, z = [] := ⟨_, rfl⟩
  have hS : va_S A s.heap H locs := by rw [hH9, hlo9]; exact hS
  suffices hG : W p l e (headSpec px_s76 ({ frames := 3, cells := 0, slots := 0, locals := 70 })).room s m ([.ref h0, .int a1x, .int a2x, .int a3x]).toArray below meth c H locs 0 0 Q (F0 m 0 ls []) by rw [hH9, hlo9] at hG; exact hG
  refine lv_iload_n hx hb px_d76_0 rfl (lv_at hl 2 rfl) ?_
  refine lv_if_ne (tgt := 36) hx hb px_d76_1 (by decide) (fun c1 => ?_) (fun c1 => ?_)
  · have hw := hw.1 c1
    refine lv_iload_n hx hb px_d76_36 rfl (lv_at hl 2 rfl) ?_
    refine lv_iconst (v := 3) hx hb px_d76_37 (by decide) ?_
    refine lv_icmp_ne (tgt := 50) hx hb px_d76_38 (by decide) (fun c38 => ?_) (fun c38 => ?_)
    · have hw := hw.1 c38
      refine lv_aload_n hx hb px_d76_50 rfl (lv_at hl 0 rfl) ?_
      refine lv_iload_n hx hb px_d76_51 rfl (lv_at hl 1 rfl) ?_
      refine lv_iload_n hx hb px_d76_52 rfl (lv_at hl 3 rfl) ?_
      refine lv_iload_n hx hb px_d76_53 rfl (lv_at hl 2 rfl) ?_
      refine lv_iconst (v := 2) hx hb px_d76_54 (by decide) ?_
      refine lv_icmp_ne (tgt := 62) hx hb px_d76_55 (by decide) (fun c55 => ?_) (fun c55 => ?_)
      · have hw := hw.1 c55
        refine lv_iconst (v := 0) hx hb px_d76_62 (by decide) ?_
        exact S63 a1x a2x a3x 0 a3x a1x iv g_elements g_ranks g_rankOf g_sizes H locs ls hP hD hS (lv_sub hl [0, 1, 2, 3] rfl) hw
      · have hw := hw.2 c55
        refine lv_iconst (v := 1) hx hb px_d76_58 (by decide) ?_
        refine lv_goto (tgt := 63) hx hb px_d76_59 (by decide) ?_
        exact S63 a1x a2x a3x 1 a3x a1x iv g_elements g_ranks g_rankOf g_sizes H locs ls hP hD hS (lv_sub hl [0, 1, 2, 3] rfl) hw
    · have hw := hw.2 c38
      refine lv_aload_n hx hb px_d76_41 rfl (lv_at hl 0 rfl) ?_
      refine lv_iload_n hx hb px_d76_42 rfl (lv_at hl 1 rfl) ?_
      refine lv_iload_n hx hb px_d76_43 rfl (lv_at hl 3 rfl) ?_
      have hPc := hP.sub (ws' := [(h0, .inr (8, px_mf rf iv)), (rf 19, .inl (c_elements, 26, .inl g_elements)), (rf 25, .inl (c_rankOf, 106496, .inl g_rankOf))]) [0, 1, 3] rfl
      have hDc := hD.sub (ws' := [(h0, .inr (8, px_mf rf iv)), (rf 19, .inl (c_elements, 26, .inl g_elements)), (rf 25, .inl (c_rankOf, 106496, .inl g_rankOf))]) [0, 1, 3] (by decide) rfl
      have hKc := hK.sub (tys' := [(c_elements, .int), (c_rankOf, .byte)]) [0, 2] rfl
      have hFc := va_free (wc := [(h0, .inr (8, px_mf rf iv)), (rf 19, .inl (c_elements, 26, .inl g_elements)), (rf 25, .inl (c_rankOf, 106496, .inl g_rankOf))]) hD hS hA [0, 1, 3] rfl
      refine va_calli (va_runV (As := [.int a1x, .int a3x]) (rest := []) ⟨hx, hb, hml, hown, htw⟩ (w75_met l dC dI H.size h0 rf c_elements c_rankOf a1x a3x iv g_elements g_rankOf _ hw) (cwV 2 htw (px_gv px_w577 px_w571 px_w572 px_w94 px_g75) rfl rfl rfl (by decide +kernel) ⟨Nat.le_of_ble_eq_true rfl, Nat.le_of_ble_eq_true rfl⟩) ⟨fun a U g mk q => by obtain ⟨q0, q1, qP, qK, qD, qN⟩ := q; exact ⟨q0, q1, qP, va_K.moved (u := U) (U := U.calling g mk a) (Vm.Alike.refl U.vm) qK, qD, qN.same rfl⟩, va_recv hK hP (ci := 8) (q0 := 0) rfl rfl, fun U hU hW => ⟨rfl, by rw [hU], by rw [hU]; exact hPc, va_K.moved hW.alike hKc, hDc.weaken (fun _ _ _ _ => trivial), hN.warm hW⟩⟩ rfl rfl hl.1 rfl (lv_room (Nat.le_of_ble_eq_true rfl)) px_d76_44 ⟨(Nat.le_of_ble_eq_true rfl), (Nat.le_of_ble_eq_true rfl)⟩) hS (fun q _ h => hFc q h) hFc (fun r44 u t H1 locs ht hvm hw hB hz1 hk1 hS => ?_)
      obtain ⟨v6, v7, v8⟩ := u
      obtain ⟨hP1, hK1, hD1⟩ := hB
      rw [ht] at hP1
      have hK1 := va_K.moved hvm.symm hK1
      obtain ⟨hP, hD⟩ := va_join (wr := [(rf 21, .inl (c_ranks, 26, .inl g_ranks)), (rf 28, .inl (c_sizes, 4096, .inl g_sizes))]) (w1 := [(h0, .inr (8, px_mf rf v6)), (rf 19, .inl (c_elements, 26, .inl v7)), (rf 25, .inl (c_rankOf, 106496, .inl v8))]) hP hD [0, 1, 3] [2, 4] rfl rfl (by decide) (by decide) hk1 hFc hP1 hD1
      generalize H1 = H at hP hS ⊢
      have hP : va_P (dC, dI) vwCl [(rf 21, .inl (c_ranks, 26, .inl g_ranks)), (rf 28, .inl (c_sizes, 4096, .inl g_sizes)), (h0, .inr (8, px_mf rf v6)), (rf 19, .inl (c_elements, 26, .inl v7)), (rf 25, .inl (c_rankOf, 106496, .inl v8))] H := hP
      have hD : va_D A [(rf 21, .inl (c_ranks, 26, .inl g_ranks)), (rf 28, .inl (c_sizes, 4096, .inl g_sizes)), (h0, .inr (8, px_mf rf v6)), (rf 19, .inl (c_elements, 26, .inl v7)), (rf 25, .inl (c_rankOf, 106496, .inl v8))] := hD
      have hP := hP.sub (ws' := [(h0, .inr (8, px_mf rf v6)), (rf 19, .inl (c_elements, 26, .inl v7)), (rf 21, .inl (c_ranks, 26, .inl g_ranks)), (rf 25, .inl (c_rankOf, 106496, .inl v8)), (rf 28, .inl (c_sizes, 4096, .inl g_sizes))]) [2, 3, 0, 4, 1] rfl
      have hD := hD.sub (ws' := [(h0, .inr (8, px_mf rf v6)), (rf 19, .inl (c_elements, 26, .inl v7)), (rf 21, .inl (c_ranks, 26, .inl g_ranks)), (rf 25, .inl (c_rankOf, 106496, .inl v8)), (rf 28, .inl (c_sizes, 4096, .inl g_sizes))]) [2, 3, 0, 4, 1] (by decide) rfl
      refine lv_goto (tgt := 66) hx hb px_d76_47 (by decide) ?_
      exact S66 a1x a2x a3x r44 v6 v7 g_ranks v8 g_sizes H locs ls hP hD hS (lv_sub hl [0, 1, 2, 3] rfl) hw
  · have hw := hw.2 c1
    refine lv_aload_n hx hb px_d76_4 rfl (lv_at hl 0 rfl) ?_
    refine va_get (D := (dC, dI)) (ci := 8) (v := .ref (rf 28)) (C := "MatroidDeskModel") (T := px_T8) (N := 53) hx hb htw px_in8 hown hK hP 0 rfl rfl 28 (by decide) (htw _ px_w513) (fun _ h9 => h9) rfl px_d76_5 ?_
    refine lv_iload_n hx hb px_d76_8 rfl (lv_at hl 3 rfl) ?_
    obtain ⟨hi9, hw⟩ := hw
    refine va_iald hx hb hK hP 4 3 rfl rfl hi9 px_d76_9 ?_
    refine lv_aload_n hx hb px_d76_10 rfl (lv_at hl 0 rfl) ?_
    refine va_get (D := (dC, dI)) (ci := 8) (v := .ref (rf 21)) (C := "MatroidDeskModel") (T := px_T8) (N := 53) hx hb htw px_in8 hown hK hP 0 rfl rfl 21 (by decide) (htw _ px_w504) (fun _ h9 => h9) rfl px_d76_11 ?_
    refine lv_iload_n hx hb px_d76_14 rfl (lv_at hl 1 rfl) ?_
    obtain ⟨hi15, hw⟩ := hw
    refine va_iald hx hb hK hP 2 1 rfl rfl hi15 px_d76_15 ?_
    refine lv_icmp_ne (tgt := 32) hx hb px_d76_16 (by decide) (fun c16 => ?_) (fun c16 => ?_)
    · have hw := hw.1 c16
      exact S32 a1x a2x a3x iv g_elements g_ranks g_rankOf g_sizes H locs ls hP hD hS (lv_sub hl [0, 1, 2, 3] rfl) hw
    · have hw := hw.2 c16
      refine lv_aload_n hx hb px_d76_19 rfl (lv_at hl 0 rfl) ?_
      refine lv_iload_n hx hb px_d76_20 rfl (lv_at hl 1 rfl) ?_
      refine lv_iload_n hx hb px_d76_21 rfl (lv_at hl 3 rfl) ?_
      have hPc := hP.sub (ws' := [(h0, .inr (8, px_mf rf iv)), (rf 25, .inl (c_rankOf, 106496, .inl g_rankOf)), (rf 28, .inl (c_sizes, 4096, .inl g_sizes))]) [0, 3, 4] rfl
      have hDc := hD.sub (ws' := [(h0, .inr (8, px_mf rf iv)), (rf 25, .inl (c_rankOf, 106496, .inl g_rankOf)), (rf 28, .inl (c_sizes, 4096, .inl g_sizes))]) [0, 3, 4] (by decide) rfl
      have hKc := hK.sub (tys' := [(c_rankOf, .byte), (c_sizes, .int)]) [2, 3] rfl
      have hFc := va_free (wc := [(h0, .inr (8, px_mf rf iv)), (rf 25, .inl (c_rankOf, 106496, .inl g_rankOf)), (rf 28, .inl (c_sizes, 4096, .inl g_sizes))]) hD hS hA [0, 3, 4] rfl
      refine va_calli (va_runV (As := [.int a1x, .int a3x]) (rest := []) ⟨hx, hb, hml, hown, htw⟩ (w72_met l dC dI H.size h0 rf c_rankOf c_sizes a1x a3x iv g_rankOf g_sizes _ hw) (cwV 2 htw (px_gv px_w576 px_w559 px_w560 px_w94 px_g72) rfl rfl rfl (by decide +kernel) ⟨Nat.le_of_ble_eq_true rfl, Nat.le_of_ble_eq_true rfl⟩) ⟨fun a U g mk q => by obtain ⟨q0, q1, qP, qK, qD, qN⟩ := q; exact ⟨q0, q1, qP, va_K.moved (u := U) (U := U.calling g mk a) (Vm.Alike.refl U.vm) qK, qD, qN.same rfl⟩, va_recv hK hP (ci := 8) (q0 := 0) rfl rfl, fun U hU hW => ⟨rfl, by rw [hU], by rw [hU]; exact hPc, va_K.moved hW.alike hKc, hDc.weaken (fun _ _ _ _ => trivial), hN.warm hW⟩⟩ rfl rfl hl.1 rfl (lv_room (Nat.le_of_ble_eq_true rfl)) px_d76_22 ⟨(Nat.le_of_ble_eq_true rfl), (Nat.le_of_ble_eq_true rfl)⟩) hS (fun q _ h => hFc q h) hFc (fun r22 u t H1 locs ht hvm hw hB hz1 hk1 hS => ?_)
      obtain ⟨v9, v10, v11⟩ := u
      obtain ⟨hP1, hK1, hD1⟩ := hB
      rw [ht] at hP1
      have hK1 := va_K.moved hvm.symm hK1
      obtain ⟨hP, hD⟩ := va_join (wr := [(rf 19, .inl (c_elements, 26, .inl g_elements)), (rf 21, .inl (c_ranks, 26, .inl g_ranks))]) (w1 := [(h0, .inr (8, px_mf rf v9)), (rf 25, .inl (c_rankOf, 106496, .inl v10)), (rf 28, .inl (c_sizes, 4096, .inl v11))]) hP hD [0, 3, 4] [1, 2] rfl rfl (by decide) (by decide) hk1 hFc hP1 hD1
      generalize H1 = H at hP hS ⊢
      have hP : va_P (dC, dI) vwCl [(rf 19, .inl (c_elements, 26, .inl g_elements)), (rf 21, .inl (c_ranks, 26, .inl g_ranks)), (h0, .inr (8, px_mf rf v9)), (rf 25, .inl (c_rankOf, 106496, .inl v10)), (rf 28, .inl (c_sizes, 4096, .inl v11))] H := hP
      have hD : va_D A [(rf 19, .inl (c_elements, 26, .inl g_elements)), (rf 21, .inl (c_ranks, 26, .inl g_ranks)), (h0, .inr (8, px_mf rf v9)), (rf 25, .inl (c_rankOf, 106496, .inl v10)), (rf 28, .inl (c_sizes, 4096, .inl v11))] := hD
      have hP := hP.sub (ws' := [(h0, .inr (8, px_mf rf v9)), (rf 19, .inl (c_elements, 26, .inl g_elements)), (rf 21, .inl (c_ranks, 26, .inl g_ranks)), (rf 25, .inl (c_rankOf, 106496, .inl v10)), (rf 28, .inl (c_sizes, 4096, .inl v11))]) [2, 0, 1, 3, 4] rfl
      have hD := hD.sub (ws' := [(h0, .inr (8, px_mf rf v9)), (rf 19, .inl (c_elements, 26, .inl g_elements)), (rf 21, .inl (c_ranks, 26, .inl g_ranks)), (rf 25, .inl (c_rankOf, 106496, .inl v10)), (rf 28, .inl (c_sizes, 4096, .inl v11))]) [2, 0, 1, 3, 4] (by decide) rfl
      refine lv_if_eq (tgt := 32) hx hb px_d76_25 (by decide) (fun c25 => ?_) (fun c25 => ?_)
      · have hw := hw.1 c25
        exact S32 a1x a2x a3x v9 g_elements g_ranks v10 v11 H locs ls hP hD hS (lv_sub hl [0, 1, 2, 3] rfl) hw
      · have hw := hw.2 c25
        refine lv_iconst (v := 1) hx hb px_d76_28 (by decide) ?_
        refine lv_goto (tgt := 66) hx hb px_d76_29 (by decide) ?_
        exact S66 a1x a2x a3x 1 v9 g_elements g_ranks v10 v11 H locs ls hP hD hS (lv_sub hl [0, 1, 2, 3] rfl) hw

