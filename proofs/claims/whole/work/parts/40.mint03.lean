/-! MatroidDeskModel.coverOf(II)I -/
def w82_L67 (K26 : Int32 → Int32 → Int32 → Int32 → Int32 → Int32 → (Nat → Int32) → (Nat → Int32) → (Nat → Int32) → (Nat → Int32) → (Nat → Int32) → Prop) (post : Int32 → (Nat → Int32) → (Nat → Int32) → (Nat → Int32) → (Nat → Int32) → (Nat → Int32) → Prop) (x1 : Int32) (x2 : Int32) (x3 : Int32) (x4 : Int32) (x5 : Int32) (x6 : Int32) (y0 : Int32) (iv : Nat → Int32) (g_elements : Nat → Int32) (g_rankOf : Nat → Int32) (g_order : Nat → Int32) (g_sizes : Nat → Int32) : Prop := ∀ z1 : Int32, z1 = x6 + 1 → K26 x1 x2 x3 x4 y0 z1 iv g_elements g_rankOf g_order g_sizes
def w82_L26 (post : Int32 → (Nat → Int32) → (Nat → Int32) → (Nat → Int32) → (Nat → Int32) → (Nat → Int32) → Prop) : Nat → Int32 → Int32 → Int32 → Int32 → Int32 → Int32 → (Nat → Int32) → (Nat → Int32) → (Nat → Int32) → (Nat → Int32) → (Nat → Int32) → Prop
  | 0 => fun _ _ _ _ _ _ _ _ _ _ _ => False
  | k + 1 => fun x1 x2 x3 x4 x5 x6 iv g_elements g_rankOf g_order g_sizes => (x4 < x6 → post x5 iv g_elements g_rankOf g_order g_sizes) ∧ (¬ x4 < x6 → w70_wp (fun r37 v2 v3 => w70_wp (fun r49 v4 v5 => (¬ (r37 + r49) = x3 → w82_L67 (w82_L26 post k) post x1 x2 x3 x4 x5 x6 x5 v4 g_elements v5 g_order g_sizes) ∧ ((r37 + r49) = x3 → w82_L67 (w82_L26 post k) post x1 x2 x3 x4 x5 x6 (x5 &&& x6) v4 g_elements v5 g_order g_sizes)) x2 (x4 &&& (x6 ^^^ (-1))) v2 v3) x1 x6 iv g_rankOf)
def w82_wp (post : Int32 → (Nat → Int32) → (Nat → Int32) → (Nat → Int32) → (Nat → Int32) → (Nat → Int32) → Prop) (a1x : Int32) (a2x : Int32) (iv : Nat → Int32) (g_elements : Nat → Int32) (g_rankOf : Nat → Int32) (g_order : Nat → Int32) (g_sizes : Nat → Int32) : Prop := w81_wp (fun r7 v6 v7 v8 v9 v10 => vp_in r7 4096 ∧ (∀ z11 : Int32, z11 = v10 (Int32.toNatClampNeg r7) → w71_wp (fun r14 v12 v13 => ∃ j26, w82_L26 post j26 a1x a2x z11 r14 r14 0 v12 v13 v8 v9 v10) a1x v6 v7)) a1x a2x iv g_elements g_rankOf g_order g_sizes
set_option maxHeartbeats 8000000 in
set_option maxRecDepth 100000 in
theorem w82_met (l : Launch) (dC : Nat → ClassId) (dI : Nat → Nat → Nat) (sz : Nat) (h0 : Nat) (rf : Nat → Nat) (c_elements : ClassId) (c_rankOf : ClassId) (c_order : ClassId) (c_sizes : ClassId) (a1x : Int32) (a2x : Int32) (iv : Nat → Int32) (g_elements : Nat → Int32) (g_rankOf : Nat → Int32) (g_order : Nat → Int32) (g_sizes : Nat → Int32) (post : Int32 → (Nat → Int32) → (Nat → Int32) → (Nat → Int32) → (Nat → Int32) → (Nat → Int32) → Prop) (hw : w82_wp post a1x a2x iv g_elements g_rankOf g_order g_sizes) : Met l px_y82 px_s82 ({ frames := 3, cells := 0, slots := 0, locals := 69 }) (va_Pc [.ref h0, .int a1x, .int a2x] (fun U => U.heap.size = sz ∧ va_P (dC, dI) vwCl [(h0, .inr (8, px_mf rf iv)), (rf 19, .inl (c_elements, 26, .inl g_elements)), (rf 25, .inl (c_rankOf, 106496, .inl g_rankOf)), (rf 27, .inl (c_order, 4096, .inl g_order)), (rf 28, .inl (c_sizes, 4096, .inl g_sizes))] U.heap ∧ va_K (dC, dI) vwCl [(c_elements, .int), (c_rankOf, .byte), (c_order, .int), (c_sizes, .int)] U ∧ va_D (fun _ => True) [(h0, .inr (8, px_mf rf iv)), (rf 19, .inl (c_elements, 26, .inl g_elements)), (rf 25, .inl (c_rankOf, 106496, .inl g_rankOf)), (rf 27, .inl (c_order, 4096, .inl g_order)), (rf 28, .inl (c_sizes, 4096, .inl g_sizes))] ∧ px_N U)) (va_Qi (fun (r : Int32) (u : (Nat → Int32) × (Nat → Int32) × (Nat → Int32) × (Nat → Int32) × (Nat → Int32)) => post r u.1 u.2.1 u.2.2.1 u.2.2.2.1 u.2.2.2.2) (fun (u : (Nat → Int32) × (Nat → Int32) × (Nat → Int32) × (Nat → Int32) × (Nat → Int32)) (t : State) => va_P (dC, dI) vwCl [(h0, .inr (8, px_mf rf u.1)), (rf 19, .inl (c_elements, 26, .inl u.2.1)), (rf 25, .inl (c_rankOf, 106496, .inl u.2.2.1)), (rf 27, .inl (c_order, 4096, .inl u.2.2.2.1)), (rf 28, .inl (c_sizes, 4096, .inl u.2.2.2.2))] t.heap ∧ va_K (dC, dI) vwCl [(c_elements, .int), (c_rankOf, .byte), (c_order, .int), (c_sizes, .int)] t ∧ va_D (va_A [(h0, .inr (8, px_mf rf iv)), (rf 19, .inl (c_elements, 26, .inl g_elements)), (rf 25, .inl (c_rankOf, 106496, .inl g_rankOf)), (rf 27, .inl (c_order, 4096, .inl g_order)), (rf 28, .inl (c_sizes, 4096, .inl g_sizes))] sz) [(h0, .inr (8, px_mf rf u.1)), (rf 19, .inl (c_elements, 26, .inl u.2.1)), (rf 25, .inl (c_rankOf, 106496, .inl u.2.2.1)), (rf 27, .inl (c_order, 4096, .inl u.2.2.2.1)), (rf 28, .inl (c_sizes, 4096, .inl u.2.2.2.2))]) (va_A [(h0, .inr (8, px_mf rf iv)), (rf 19, .inl (c_elements, 26, .inl g_elements)), (rf 25, .inl (c_rankOf, 106496, .inl g_rankOf)), (rf 27, .inl (c_order, 4096, .inl g_order)), (rf 28, .inl (c_sizes, 4096, .inl g_sizes))] sz)) 0 0 (va_A [(h0, .inr (8, px_mf rf iv)), (rf 19, .inl (c_elements, 26, .inl g_elements)), (rf 25, .inl (c_rankOf, 106496, .inl g_rankOf)), (rf 27, .inl (c_order, 4096, .inl g_order)), (rf 28, .inl (c_sizes, 4096, .inl g_sizes))] sz) := by
  refine Met.ofW (cc := prog_15_method_37_code) (maxL := 7) (ret := (some .int)) (by decide) rfl ?_
  intro p e s m args below meth c s₁ B hml hv
  obtain ⟨rfl, hsz, hP, hK, hD0, hN⟩ := hv
  have hx := B.exec
  have hb := B.bytes
  have hr := B.returns
  have htw : ∀ w ∈ px_all, w.before _ s = true := fun w h => atoms_spec (ws := px_s82) B.pre w (List.mem_cons_of_mem _ h)
  have hown : s.vm.findClass "MatroidDeskModel" = some m.cls := findClass_of_methodNamed B.named
  have hlocks := B.notSynchronized
  subst hsz
  have hD := hD0.self (sz := s.heap.size)
  generalize hAe : va_A [(h0, .inr (8, px_mf rf iv)), (rf 19, .inl (c_elements, 26, .inl g_elements)), (rf 25, .inl (c_rankOf, 106496, .inl g_rankOf)), (rf 27, .inl (c_order, 4096, .inl g_order)), (rf 28, .inl (c_sizes, 4096, .inl g_sizes))] s.heap.size = A at hD ⊢
  have hA : ∀ q : Nat, s.heap.size ≤ q → A q := fun q h => by rw [← hAe]; exact Or.inr h
  have hS : va_S A s.heap s.heap [] := va_S.rf
  have hP : va_P (dC, dI) vwCl [(h0, .inr (8, px_mf rf iv)), (rf 19, .inl (c_elements, 26, .inl g_elements)), (rf 25, .inl (c_rankOf, 106496, .inl g_rankOf)), (rf 27, .inl (c_order, 4096, .inl g_order)), (rf 28, .inl (c_sizes, 4096, .inl g_sizes))] s.heap := hP
  have hl := lv_entry ([.ref h0, .int a1x, .int a2x]) (n := 7) (Nat.le_of_ble_eq_true rfl)
  rw [lg_entry_eq]
  generalize (lg_sl ([.ref h0, .int a1x, .int a2x]) ++ List.replicate (7 - (lg_sl ([.ref h0, .int a1x, .int a2x])).length) Slot.unset).toArray = ls at hl ⊢
  have hl : lv_has ls 7 [(0, .ref h0), (1, .int a1x), (2, .int a2x)] := hl
  generalize hQ : MQ _ _ _ _ _ _ _ = Q
  have S26 : ∀ (k26 : Nat) (x1 : Int32) (x2 : Int32) (x3 : Int32) (x4 : Int32) (x5 : Int32) (x6 : Int32) (iv : Nat → Int32) (g_elements : Nat → Int32) (g_rankOf : Nat → Int32) (g_order : Nat → Int32) (g_sizes : Nat → Int32) (H : Heap) (locs : List Loc) (ls : Array Slot), va_P (dC, dI) vwCl [(h0, .inr (8, px_mf rf iv)), (rf 19, .inl (c_elements, 26, .inl g_elements)), (rf 25, .inl (c_rankOf, 106496, .inl g_rankOf)), (rf 27, .inl (c_order, 4096, .inl g_order)), (rf 28, .inl (c_sizes, 4096, .inl g_sizes))] H → va_D A [(h0, .inr (8, px_mf rf iv)), (rf 19, .inl (c_elements, 26, .inl g_elements)), (rf 25, .inl (c_rankOf, 106496, .inl g_rankOf)), (rf 27, .inl (c_order, 4096, .inl g_order)), (rf 28, .inl (c_sizes, 4096, .inl g_sizes))] → va_S A s.heap H locs → lv_has ls 7 [(0, .ref h0), (1, .int x1), (2, .int x2), (3, .int x3), (4, .int x4), (5, .int x5), (6, .int x6)] → w82_L26 post k26 x1 x2 x3 x4 x5 x6 iv g_elements g_rankOf g_order g_sizes → W p l e (headSpec px_s82 ({ frames := 3, cells := 0, slots := 0, locals := 69 })).room s m ([.ref h0, .int a1x, .int a2x]).toArray below meth c H locs 0 0 Q (F0 m 26 ls []) := by
    intro k26
    induction k26 with
    | zero => intro x1 x2 x3 x4 x5 x6 iv g_elements g_rankOf g_order g_sizes H locs ls hP hD hS hl hw; exact False.elim hw
    | succ k26 ih26 =>
      have S67 : ∀ (x1 : Int32) (x2 : Int32) (x3 : Int32) (x4 : Int32) (x5 : Int32) (x6 : Int32) (y0 : Int32) (iv : Nat → Int32) (g_elements : Nat → Int32) (g_rankOf : Nat → Int32) (g_order : Nat → Int32) (g_sizes : Nat → Int32) (H : Heap) (locs : List Loc) (ls : Array Slot), va_P (dC, dI) vwCl [(h0, .inr (8, px_mf rf iv)), (rf 19, .inl (c_elements, 26, .inl g_elements)), (rf 25, .inl (c_rankOf, 106496, .inl g_rankOf)), (rf 27, .inl (c_order, 4096, .inl g_order)), (rf 28, .inl (c_sizes, 4096, .inl g_sizes))] H → va_D A [(h0, .inr (8, px_mf rf iv)), (rf 19, .inl (c_elements, 26, .inl g_elements)), (rf 25, .inl (c_rankOf, 106496, .inl g_rankOf)), (rf 27, .inl (c_order, 4096, .inl g_order)), (rf 28, .inl (c_sizes, 4096, .inl g_sizes))] → va_S A s.heap H locs → lv_has ls 7 [(0, .ref h0), (1, .int x1), (2, .int x2), (3, .int x3), (4, .int x4), (5, .int x5), (6, .int x6)] → w82_L67 (w82_L26 post k26) post x1 x2 x3 x4 x5 x6 y0 iv g_elements g_rankOf g_order g_sizes → W p l e (headSpec px_s82 ({ frames := 3, cells := 0, slots := 0, locals := 69 })).room s m ([.ref h0, .int a1x, .int a2x]).toArray below meth c H locs 0 0 Q (F0 m 67 ls [.int y0]) := by
        intro x1 x2 x3 x4 x5 x6 y0 iv g_elements g_rankOf g_order g_sizes H locs ls hP hD hS hl hw
        unfold w82_L67 at hw
        refine lv_istore (lv' := [(5, .int y0), (0, .ref h0), (1, .int x1), (2, .int x2), (3, .int x3), (4, .int x4), (6, .int x6)]) hx hb px_d82_67 hl (by decide) rfl (fun ls hl => ?_)
        obtain ⟨z1, ez1⟩ : ∃ y : Int32, y = x6 + 1 := ⟨_, rfl⟩
        have hw := hw z1 ez1
        refine lv_iinc (v := z1) (lv' := [(6, .int z1), (5, .int y0), (0, .ref h0), (1, .int x1), (2, .int x2), (3, .int x3), (4, .int x4)]) hx hb px_d82_69 hl (k := 6) rfl (by rw [ez1]; rfl) (by decide) rfl (fun ls hl => ?_)
        refine lv_goto (tgt := 26) hx hb px_d82_72 (by decide) ?_
        exact ih26 x1 x2 x3 x4 y0 z1 iv g_elements g_rankOf g_order g_sizes H locs ls hP hD hS (lv_sub hl [2, 3, 4, 5, 6, 1, 0] rfl) hw
      intro x1 x2 x3 x4 x5 x6 iv g_elements g_rankOf g_order g_sizes H locs ls hP hD hS hl hw
      unfold w82_L26 at hw
      refine lv_iload hx hb px_d82_26 (lv_at hl 6 rfl) ?_
      refine lv_iload hx hb px_d82_28 (lv_at hl 4 rfl) ?_
      refine lv_icmp_gt (tgt := 75) hx hb px_d82_30 (by decide) (fun c30 => ?_) (fun c30 => ?_)
      · have hw := hw.1 c30
        refine lv_iload hx hb px_d82_75 (lv_at hl 5 rfl) ?_
        rw [← hQ]
        exact W.iret (v := x5) hx hb hr (fun t ht hW => ⟨⟨x5, (iv, g_elements, g_rankOf, g_order, g_sizes), rfl, hw, by rw [ht]; exact hP, va_K.moved hW.alike hK, hD⟩, hS.F ht⟩) hS.2.2 px_d82_77
      · have hw := hw.2 c30
        refine lv_aload_n hx hb px_d82_33 rfl (lv_at hl 0 rfl) ?_
        refine lv_iload_n hx hb px_d82_34 rfl (lv_at hl 1 rfl) ?_
        refine lv_iload hx hb px_d82_35 (lv_at hl 6 rfl) ?_
        have hPc := hP.sub (ws' := [(h0, .inr (8, px_mf rf iv)), (rf 25, .inl (c_rankOf, 106496, .inl g_rankOf))]) [0, 2] rfl
        have hDc := hD.sub (ws' := [(h0, .inr (8, px_mf rf iv)), (rf 25, .inl (c_rankOf, 106496, .inl g_rankOf))]) [0, 2] (by decide) rfl
        have hKc := hK.sub (tys' := [(c_rankOf, .byte)]) [1] rfl
        have hFc := va_free (wc := [(h0, .inr (8, px_mf rf iv)), (rf 25, .inl (c_rankOf, 106496, .inl g_rankOf))]) hD hS hA [0, 2] rfl
        refine va_calli (va_runV (As := [.int x1, .int x6]) (rest := []) ⟨hx, hb, hml, hown, htw⟩ (w70_met l dC dI H.size h0 rf c_rankOf x1 x6 iv g_rankOf _ hw) (cwV 2 htw (px_gv px_w561 px_w553 px_w554 px_w94 px_g70) rfl rfl rfl (by decide +kernel) ⟨Nat.le_of_ble_eq_true rfl, Nat.le_of_ble_eq_true rfl⟩) ⟨fun a U g mk q => by obtain ⟨q0, q1, qP, qK, qD, qN⟩ := q; exact ⟨q0, q1, qP, va_K.moved (u := U) (U := U.calling g mk a) (Vm.Alike.refl U.vm) qK, qD, qN.same rfl⟩, va_recv hK hP (ci := 8) (q0 := 0) rfl rfl, fun U hU hW => ⟨rfl, by rw [hU], by rw [hU]; exact hPc, va_K.moved hW.alike hKc, hDc.weaken (fun _ _ _ _ => trivial), hN.warm hW⟩⟩ rfl rfl hl.1 rfl (lv_room (Nat.le_of_ble_eq_true rfl)) px_d82_37 ⟨(Nat.le_of_ble_eq_true rfl), (Nat.le_of_ble_eq_true rfl)⟩) hS (fun q _ h => hFc q h) hFc (fun r37 u t H1 locs ht hvm hw hB hz1 hk1 hS => ?_)
        obtain ⟨v2, v3⟩ := u
        obtain ⟨hP1, hK1, hD1⟩ := hB
        rw [ht] at hP1
        have hK1 := va_K.moved hvm.symm hK1
        obtain ⟨hP, hD⟩ := va_join (wr := [(rf 19, .inl (c_elements, 26, .inl g_elements)), (rf 27, .inl (c_order, 4096, .inl g_order)), (rf 28, .inl (c_sizes, 4096, .inl g_sizes))]) (w1 := [(h0, .inr (8, px_mf rf v2)), (rf 25, .inl (c_rankOf, 106496, .inl v3))]) hP hD [0, 2] [1, 3, 4] rfl rfl (by decide) (by decide) hk1 hFc hP1 hD1
        generalize H1 = H at hP hS ⊢
        have hP : va_P (dC, dI) vwCl [(rf 19, .inl (c_elements, 26, .inl g_elements)), (rf 27, .inl (c_order, 4096, .inl g_order)), (rf 28, .inl (c_sizes, 4096, .inl g_sizes)), (h0, .inr (8, px_mf rf v2)), (rf 25, .inl (c_rankOf, 106496, .inl v3))] H := hP
        have hD : va_D A [(rf 19, .inl (c_elements, 26, .inl g_elements)), (rf 27, .inl (c_order, 4096, .inl g_order)), (rf 28, .inl (c_sizes, 4096, .inl g_sizes)), (h0, .inr (8, px_mf rf v2)), (rf 25, .inl (c_rankOf, 106496, .inl v3))] := hD
        have hP := hP.sub (ws' := [(h0, .inr (8, px_mf rf v2)), (rf 19, .inl (c_elements, 26, .inl g_elements)), (rf 25, .inl (c_rankOf, 106496, .inl v3)), (rf 27, .inl (c_order, 4096, .inl g_order)), (rf 28, .inl (c_sizes, 4096, .inl g_sizes))]) [3, 0, 4, 1, 2] rfl
        have hD := hD.sub (ws' := [(h0, .inr (8, px_mf rf v2)), (rf 19, .inl (c_elements, 26, .inl g_elements)), (rf 25, .inl (c_rankOf, 106496, .inl v3)), (rf 27, .inl (c_order, 4096, .inl g_order)), (rf 28, .inl (c_sizes, 4096, .inl g_sizes))]) [3, 0, 4, 1, 2] (by decide) rfl
        refine lv_aload_n hx hb px_d82_40 rfl (lv_at hl 0 rfl) ?_
        refine lv_iload_n hx hb px_d82_41 rfl (lv_at hl 2 rfl) ?_
        refine lv_iload hx hb px_d82_42 (lv_at hl 4 rfl) ?_
        refine lv_iload hx hb px_d82_44 (lv_at hl 6 rfl) ?_
        refine lv_iconst (v := (-1)) hx hb px_d82_46 (by decide) ?_
        refine lv_ixor hx hb px_d82_47 ?_
        refine lv_iand hx hb px_d82_48 ?_
        have hPc := hP.sub (ws' := [(h0, .inr (8, px_mf rf v2)), (rf 25, .inl (c_rankOf, 106496, .inl v3))]) [0, 2] rfl
        have hDc := hD.sub (ws' := [(h0, .inr (8, px_mf rf v2)), (rf 25, .inl (c_rankOf, 106496, .inl v3))]) [0, 2] (by decide) rfl
        have hKc := hK.sub (tys' := [(c_rankOf, .byte)]) [1] rfl
        have hFc := va_free (wc := [(h0, .inr (8, px_mf rf v2)), (rf 25, .inl (c_rankOf, 106496, .inl v3))]) hD hS hA [0, 2] rfl
        refine va_calli (va_runV (As := [.int x2, .int (x4 &&& (x6 ^^^ (-1)))]) (rest := [.int r37]) ⟨hx, hb, hml, hown, htw⟩ (w70_met l dC dI H.size h0 rf c_rankOf x2 (x4 &&& (x6 ^^^ (-1))) v2 v3 _ hw) (cwV 2 htw (px_gv px_w561 px_w553 px_w554 px_w94 px_g70) rfl rfl rfl (by decide +kernel) ⟨Nat.le_of_ble_eq_true rfl, Nat.le_of_ble_eq_true rfl⟩) ⟨fun a U g mk q => by obtain ⟨q0, q1, qP, qK, qD, qN⟩ := q; exact ⟨q0, q1, qP, va_K.moved (u := U) (U := U.calling g mk a) (Vm.Alike.refl U.vm) qK, qD, qN.same rfl⟩, va_recv hK hP (ci := 8) (q0 := 0) rfl rfl, fun U hU hW => ⟨rfl, by rw [hU], by rw [hU]; exact hPc, va_K.moved hW.alike hKc, hDc.weaken (fun _ _ _ _ => trivial), hN.warm hW⟩⟩ rfl rfl hl.1 rfl (lv_room (Nat.le_of_ble_eq_true rfl)) px_d82_49 ⟨(Nat.le_of_ble_eq_true rfl), (Nat.le_of_ble_eq_true rfl)⟩) hS (fun q _ h => hFc q h) hFc (fun r49 u t H1 locs ht hvm hw hB hz1 hk1 hS => ?_)
        obtain ⟨v4, v5⟩ := u
        obtain ⟨hP1, hK1, hD1⟩ := hB
        rw [ht] at hP1
        have hK1 := va_K.moved hvm.symm hK1
        obtain ⟨hP, hD⟩ := va_join (wr := [(rf 19, .inl (c_elements, 26, .inl g_elements)), (rf 27, .inl (c_order, 4096, .inl g_order)), (rf 28, .inl (c_sizes, 4096, .inl g_sizes))]) (w1 := [(h0, .inr (8, px_mf rf v4)), (rf 25, .inl (c_rankOf, 106496, .inl v5))]) hP hD [0, 2] [1, 3, 4] rfl rfl (by decide) (by decide) hk1 hFc hP1 hD1
        generalize H1 = H at hP hS ⊢
        have hP : va_P (dC, dI) vwCl [(rf 19, .inl (c_elements, 26, .inl g_elements)), (rf 27, .inl (c_order, 4096, .inl g_order)), (rf 28, .inl (c_sizes, 4096, .inl g_sizes)), (h0, .inr (8, px_mf rf v4)), (rf 25, .inl (c_rankOf, 106496, .inl v5))] H := hP
        have hD : va_D A [(rf 19, .inl (c_elements, 26, .inl g_elements)), (rf 27, .inl (c_order, 4096, .inl g_order)), (rf 28, .inl (c_sizes, 4096, .inl g_sizes)), (h0, .inr (8, px_mf rf v4)), (rf 25, .inl (c_rankOf, 106496, .inl v5))] := hD
        have hP := hP.sub (ws' := [(h0, .inr (8, px_mf rf v4)), (rf 19, .inl (c_elements, 26, .inl g_elements)), (rf 25, .inl (c_rankOf, 106496, .inl v5)), (rf 27, .inl (c_order, 4096, .inl g_order)), (rf 28, .inl (c_sizes, 4096, .inl g_sizes))]) [3, 0, 4, 1, 2] rfl
        have hD := hD.sub (ws' := [(h0, .inr (8, px_mf rf v4)), (rf 19, .inl (c_elements, 26, .inl g_elements)), (rf 25, .inl (c_rankOf, 106496, .inl v5)), (rf 27, .inl (c_order, 4096, .inl g_order)), (rf 28, .inl (c_sizes, 4096, .inl g_sizes))]) [3, 0, 4, 1, 2] (by decide) rfl
        refine lv_iadd hx hb px_d82_52 ?_
        refine lv_iload_n hx hb px_d82_53 rfl (lv_at hl 3 rfl) ?_
        refine lv_icmp_ne (tgt := 65) hx hb px_d82_54 (by decide) (fun c54 => ?_) (fun c54 => ?_)
        · have hw := hw.1 c54
          refine lv_iload hx hb px_d82_65 (lv_at hl 5 rfl) ?_
          exact S67 x1 x2 x3 x4 x5 x6 x5 v4 g_elements v5 g_order g_sizes H locs ls hP hD hS (lv_sub hl [0, 1, 2, 3, 4, 5, 6] rfl) hw
        · have hw := hw.2 c54
          refine lv_iload hx hb px_d82_57 (lv_at hl 5 rfl) ?_
          refine lv_iload hx hb px_d82_59 (lv_at hl 6 rfl) ?_
          refine lv_iand hx hb px_d82_61 ?_
          refine lv_goto (tgt := 67) hx hb px_d82_62 (by decide) ?_
          exact S67 x1 x2 x3 x4 x5 x6 (x5 &&& x6) v4 g_elements v5 g_order g_sizes H locs ls hP hD hS (lv_sub hl [0, 1, 2, 3, 4, 5, 6] rfl) hw
  unfold w82_wp at hw
  have hS0 := hS
  obtain ⟨H, hH9⟩ : ∃ z, z = s.heap := ⟨_, rfl⟩
  have hP : va_P (dC, dI) vwCl [(h0, .inr (8, px_mf rf iv)), (rf 19, .inl (c_elements, 26, .inl g_elements)), (rf 25, .inl (c_rankOf, 106496, .inl g_rankOf)), (rf 27, .inl (c_order, 4096, .inl g_order)), (rf 28, .inl (c_sizes, 4096, .inl g_sizes))] H := by rw [hH9]; exact hP
  obtain ⟨locs, hlo9⟩ : ∃ z : List Loc, z = [] := ⟨_, rfl⟩
  have hS : va_S A s.heap H locs := by rw [hH9, hlo9]; exact hS
  suffices hG : W p l e (headSpec px_s82 ({ frames := 3, cells := 0, slots := 0, locals := 69 })).room s m ([.ref h0, .int a1x, .int a2x]).toArray below meth c H locs 0 0 Q (F0 m 0 ls []) by rw [hH9, hlo9] at hG; exact hG
  refine lv_aload_n hx hb px_d82_0 rfl (lv_at hl 0 rfl) ?_
  refine va_get (D := (dC, dI)) (ci := 8) (v := .ref (rf 28)) (C := "MatroidDeskModel") (T := px_T8) (N := 53) hx hb htw px_in8 hown hK hP 0 rfl rfl 28 (by decide) (htw _ px_w513) (fun _ h9 => h9) rfl px_d82_1 ?_
  refine lv_aload_n hx hb px_d82_4 rfl (lv_at hl 0 rfl) ?_
  refine lv_iload_n hx hb px_d82_5 rfl (lv_at hl 1 rfl) ?_
  refine lv_iload_n hx hb px_d82_6 rfl (lv_at hl 2 rfl) ?_
  have hPc := hP.sub (ws' := [(h0, .inr (8, px_mf rf iv)), (rf 19, .inl (c_elements, 26, .inl g_elements)), (rf 25, .inl (c_rankOf, 106496, .inl g_rankOf)), (rf 27, .inl (c_order, 4096, .inl g_order)), (rf 28, .inl (c_sizes, 4096, .inl g_sizes))]) [0, 1, 2, 3, 4] rfl
  have hDc := hD.sub (ws' := [(h0, .inr (8, px_mf rf iv)), (rf 19, .inl (c_elements, 26, .inl g_elements)), (rf 25, .inl (c_rankOf, 106496, .inl g_rankOf)), (rf 27, .inl (c_order, 4096, .inl g_order)), (rf 28, .inl (c_sizes, 4096, .inl g_sizes))]) [0, 1, 2, 3, 4] (by decide) rfl
  have hKc := hK.sub (tys' := [(c_elements, .int), (c_rankOf, .byte), (c_order, .int), (c_sizes, .int)]) [0, 1, 2, 3] rfl
  have hFc := va_free (wc := [(h0, .inr (8, px_mf rf iv)), (rf 19, .inl (c_elements, 26, .inl g_elements)), (rf 25, .inl (c_rankOf, 106496, .inl g_rankOf)), (rf 27, .inl (c_order, 4096, .inl g_order)), (rf 28, .inl (c_sizes, 4096, .inl g_sizes))]) hD hS hA [0, 1, 2, 3, 4] rfl
  refine va_calli (va_runV (As := [.int a1x, .int a2x]) (rest := [.ref (rf 28)]) ⟨hx, hb, hml, hown, htw⟩ (w81_met l dC dI H.size h0 rf c_elements c_rankOf c_order c_sizes a1x a2x iv g_elements g_rankOf g_order g_sizes _ hw) (cwV 2 htw (px_gv px_w598 px_w593 px_w594 px_w94 px_g81) rfl rfl rfl (by decide +kernel) ⟨Nat.le_of_ble_eq_true rfl, Nat.le_of_ble_eq_true rfl⟩) ⟨fun a U g mk q => by obtain ⟨q0, q1, qP, qK, qD, qN⟩ := q; exact ⟨q0, q1, qP, va_K.moved (u := U) (U := U.calling g mk a) (Vm.Alike.refl U.vm) qK, qD, qN.same rfl⟩, va_recv hK hP (ci := 8) (q0 := 0) rfl rfl, fun U hU hW => ⟨rfl, by rw [hU], by rw [hU]; exact hPc, va_K.moved hW.alike hKc, hDc.weaken (fun _ _ _ _ => trivial), hN.warm hW⟩⟩ rfl rfl hl.1 rfl (lv_room (Nat.le_of_ble_eq_true rfl)) px_d82_7 ⟨(Nat.le_of_ble_eq_true rfl), (Nat.le_of_ble_eq_true rfl)⟩) hS (fun q _ h => hFc q h) hFc (fun r7 u t H1 locs ht hvm hw hB hz1 hk1 hS => ?_)
  obtain ⟨v6, v7, v8, v9, v10⟩ := u
  obtain ⟨hP1, hK1, hD1⟩ := hB
  rw [ht] at hP1
  have hK1 := va_K.moved hvm.symm hK1
  obtain ⟨hP, hD⟩ := va_join (wr := []) (w1 := [(h0, .inr (8, px_mf rf v6)), (rf 19, .inl (c_elements, 26, .inl v7)), (rf 25, .inl (c_rankOf, 106496, .inl v8)), (rf 27, .inl (c_order, 4096, .inl v9)), (rf 28, .inl (c_sizes, 4096, .inl v10))]) hP hD [0, 1, 2, 3, 4] [] rfl rfl (by decide) (by decide) hk1 hFc hP1 hD1
  generalize H1 = H at hP hS ⊢
  have hP : va_P (dC, dI) vwCl [(h0, .inr (8, px_mf rf v6)), (rf 19, .inl (c_elements, 26, .inl v7)), (rf 25, .inl (c_rankOf, 106496, .inl v8)), (rf 27, .inl (c_order, 4096, .inl v9)), (rf 28, .inl (c_sizes, 4096, .inl v10))] H := hP
  have hD : va_D A [(h0, .inr (8, px_mf rf v6)), (rf 19, .inl (c_elements, 26, .inl v7)), (rf 25, .inl (c_rankOf, 106496, .inl v8)), (rf 27, .inl (c_order, 4096, .inl v9)), (rf 28, .inl (c_sizes, 4096, .inl v10))] := hD
  obtain ⟨hi10, hw⟩ := hw
  refine va_iald hx hb hK hP 4 3 rfl rfl hi10 px_d82_10 ?_
  refine lv_topi (fun z11 ez11 => ?_)
  have hw := hw z11 ez11
  refine lv_istore_n (lv' := [(3, .int z11), (0, .ref h0), (1, .int a1x), (2, .int a2x)]) hx hb px_d82_11 rfl hl (by decide) rfl (fun ls hl => ?_)
  refine lv_aload_n hx hb px_d82_12 rfl (lv_at hl 1 rfl) ?_
  refine lv_iload_n hx hb px_d82_13 rfl (lv_at hl 2 rfl) ?_
  have hPc := hP.sub (ws' := [(h0, .inr (8, px_mf rf v6)), (rf 19, .inl (c_elements, 26, .inl v7))]) [0, 1] rfl
  have hDc := hD.sub (ws' := [(h0, .inr (8, px_mf rf v6)), (rf 19, .inl (c_elements, 26, .inl v7))]) [0, 1] (by decide) rfl
  have hKc := hK.sub (tys' := [(c_elements, .int)]) [0] rfl
  have hFc := va_free (wc := [(h0, .inr (8, px_mf rf v6)), (rf 19, .inl (c_elements, 26, .inl v7))]) hD hS hA [0, 1] rfl
  refine va_calli (va_runV (As := [.int a1x]) (rest := []) ⟨hx, hb, hml, hown, htw⟩ (w71_met l dC dI H.size h0 rf c_elements a1x v6 v7 _ hw) (cwV 1 htw (px_gv px_w565 px_w556 px_w557 px_w94 px_g71) rfl rfl rfl (by decide +kernel) ⟨Nat.le_of_ble_eq_true rfl, Nat.le_of_ble_eq_true rfl⟩) ⟨fun a U g mk q => by obtain ⟨q0, q1, qP, qK, qD, qN⟩ := q; exact ⟨q0, q1, qP, va_K.moved (u := U) (U := U.calling g mk a) (Vm.Alike.refl U.vm) qK, qD, qN.same rfl⟩, va_recv hK hP (ci := 8) (q0 := 0) rfl rfl, fun U hU hW => ⟨rfl, by rw [hU], by rw [hU]; exact hPc, va_K.moved hW.alike hKc, hDc.weaken (fun _ _ _ _ => trivial), hN.warm hW⟩⟩ rfl rfl hl.1 rfl (lv_room (Nat.le_of_ble_eq_true rfl)) px_d82_14 ⟨(Nat.le_of_ble_eq_true rfl), (Nat.le_of_ble_eq_true rfl)⟩) hS (fun q _ h => hFc q h) hFc (fun r14 u t H1 locs ht hvm hw hB hz1 hk1 hS => ?_)
  obtain ⟨v12, v13⟩ := u
  obtain ⟨hP1, hK1, hD1⟩ := hB
  rw [ht] at hP1
  have hK1 := va_K.moved hvm.symm hK1
  obtain ⟨hP, hD⟩ := va_join (wr := [(rf 25, .inl (c_rankOf, 106496, .inl v8)), (rf 27, .inl (c_order, 4096, .inl v9)), (rf 28, .inl (c_sizes, 4096, .inl v10))]) (w1 := [(h0, .inr (8, px_mf rf v12)), (rf 19, .inl (c_elements, 26, .inl v13))]) hP hD [0, 1] [2, 3, 4] rfl rfl (by decide) (by decide) hk1 hFc hP1 hD1
  generalize H1 = H at hP hS ⊢
  have hP : va_P (dC, dI) vwCl [(rf 25, .inl (c_rankOf, 106496, .inl v8)), (rf 27, .inl (c_order, 4096, .inl v9)), (rf 28, .inl (c_sizes, 4096, .inl v10)), (h0, .inr (8, px_mf rf v12)), (rf 19, .inl (c_elements, 26, .inl v13))] H := hP
  have hD : va_D A [(rf 25, .inl (c_rankOf, 106496, .inl v8)), (rf 27, .inl (c_order, 4096, .inl v9)), (rf 28, .inl (c_sizes, 4096, .inl v10)), (h0, .inr (8, px_mf rf v12)), (rf 19, .inl (c_elements, 26, .inl v13))] := hD
  have hP := hP.sub (ws' := [(h0, .inr (8, px_mf rf v12)), (rf 19, .inl (c_elements, 26, .inl v13)), (rf 25, .inl (c_rankOf, 106496, .inl v8)), (rf 27, .inl (c_order, 4096, .inl v9)), (rf 28, .inl (c_sizes, 4096, .inl v10))]) [3, 4, 0, 1, 2] rfl
  have hD := hD.sub (ws' := [(h0, .inr (8, px_mf rf v12)), (rf 19, .inl (c_elements, 26, .inl v13)), (rf 25, .inl (c_rankOf, 106496, .inl v8)), (rf 27, .inl (c_order, 4096, .inl v9)), (rf 28, .inl (c_sizes, 4096, .inl v10))]) [3, 4, 0, 1, 2] (by decide) rfl
  refine lv_istore (lv' := [(4, .int r14), (3, .int z11), (0, .ref h0), (1, .int a1x), (2, .int a2x)]) hx hb px_d82_17 hl (by decide) rfl (fun ls hl => ?_)
  refine lv_iload hx hb px_d82_19 (lv_at hl 0 rfl) ?_
  refine lv_istore (lv' := [(5, .int r14), (4, .int r14), (3, .int z11), (0, .ref h0), (1, .int a1x), (2, .int a2x)]) hx hb px_d82_21 hl (by decide) rfl (fun ls hl => ?_)
  refine lv_iconst (v := 0) hx hb px_d82_23 (by decide) ?_
  refine lv_istore (lv' := [(6, .int 0), (5, .int r14), (4, .int r14), (3, .int z11), (0, .ref h0), (1, .int a1x), (2, .int a2x)]) hx hb px_d82_24 hl (by decide) rfl (fun ls hl => ?_)
  obtain ⟨k9, hw⟩ := hw
  exact S26 k9 a1x a2x z11 r14 r14 0 v12 v13 v8 v9 v10 H locs ls hP hD hS (lv_sub hl [4, 5, 6, 3, 2, 1, 0] rfl) hw

/-! MatroidDeskModel.isEven([II)Z -/
def w83_L59 (n_r0 : Nat) (post : Int32 → (Nat → Int32) → Prop) (x1 : Int32) (x2 : Int32) (x3 : Int32) (y0 : Int32) (g_r0 : Nat → Int32) : Prop := narrow .boolean (.int y0) = .int y0 ∧ post y0 g_r0
def w83_L35 (K4 : Int32 → Int32 → Int32 → (Nat → Int32) → Prop) (K12 : Int32 → Int32 → Int32 → Int32 → (Nat → Int32) → Prop) (n_r0 : Nat) (post : Int32 → (Nat → Int32) → Prop) (x1 : Int32) (x2 : Int32) (x3 : Int32) (x4 : Int32) (y0 : Int32) (g_r0 : Nat → Int32) : Prop := ∀ z1 : Int32, z1 = x4 + 1 → K12 x1 y0 x3 z1 g_r0
def w83_L12 (K4 : Int32 → Int32 → Int32 → (Nat → Int32) → Prop) (n_r0 : Nat) (post : Int32 → (Nat → Int32) → Prop) : Nat → Int32 → Int32 → Int32 → Int32 → (Nat → Int32) → Prop
  | 0 => fun _ _ _ _ _ => False
  | k + 1 => fun x1 x2 x3 x4 g_r0 => (x3 ≤ x4 → ∀ z2 : Int32, z2 = x3 + 1 → K4 x1 x2 z2 g_r0) ∧ (¬ x3 ≤ x4 → vp_in x4 n_r0 ∧ (vp_in x3 n_r0 ∧ (((g_r0 (Int32.toNatClampNeg x4)) ≤ (g_r0 (Int32.toNatClampNeg x3)) → w83_L35 K4 (w83_L12 K4 n_r0 post k) n_r0 post x1 x2 x3 x4 x2 g_r0) ∧ (¬ (g_r0 (Int32.toNatClampNeg x4)) ≤ (g_r0 (Int32.toNatClampNeg x3)) → w83_L35 K4 (w83_L12 K4 n_r0 post k) n_r0 post x1 x2 x3 x4 (x2 + 1) g_r0))))
def w83_L4 (n_r0 : Nat) (post : Int32 → (Nat → Int32) → Prop) : Nat → Int32 → Int32 → Int32 → (Nat → Int32) → Prop
  | 0 => fun _ _ _ _ => False
  | k + 1 => fun x1 x2 x3 g_r0 => (x1 ≤ x3 → (¬ (x2 - x2 / 2 * 2) = 0 → w83_L59 n_r0 post x1 x2 x3 0 g_r0) ∧ ((x2 - x2 / 2 * 2) = 0 → w83_L59 n_r0 post x1 x2 x3 1 g_r0)) ∧ (¬ x1 ≤ x3 → ∃ j12, w83_L12 (w83_L4 n_r0 post k) n_r0 post j12 x1 x2 x3 0 g_r0)
def w83_wp (n_r0 : Nat) (post : Int32 → (Nat → Int32) → Prop) (a1x : Int32) (g_r0 : Nat → Int32) : Prop := ∃ j4, w83_L4 n_r0 post j4 a1x 0 0 g_r0
set_option maxHeartbeats 8000000 in
set_option maxRecDepth 100000 in
theorem w83_met (l : Launch) (dC : Nat → ClassId) (dI : Nat → Nat → Nat) (sz : Nat) (r0x : Nat) (n_r0 : Nat) (c_r0 : ClassId) (a1x : Int32) (g_r0 : Nat → Int32) (post : Int32 → (Nat → Int32) → Prop) (hw : w83_wp n_r0 post a1x g_r0) : Met l px_y83 px_s83 ({ frames := 0, cells := 0, slots := 0, locals := 0 }) (va_Pc [.ref r0x, .int a1x] (fun U => U.heap.size = sz ∧ va_P (dC, dI) vwCl [(r0x, .inl (c_r0, n_r0, .inl g_r0))] U.heap ∧ va_K (dC, dI) vwCl [(c_r0, .int)] U ∧ va_D (fun _ => True) [(r0x, .inl (c_r0, n_r0, .inl g_r0))] ∧ px_N U)) (va_Qi (fun (r : Int32) (u : (Nat → Int32)) => post r u) (fun (u : (Nat → Int32)) (t : State) => va_P (dC, dI) vwCl [(r0x, .inl (c_r0, n_r0, .inl u))] t.heap ∧ va_K (dC, dI) vwCl [(c_r0, .int)] t ∧ va_D (va_A [(r0x, .inl (c_r0, n_r0, .inl g_r0))] sz) [(r0x, .inl (c_r0, n_r0, .inl u))]) (va_A [(r0x, .inl (c_r0, n_r0, .inl g_r0))] sz)) 0 0 (va_A [(r0x, .inl (c_r0, n_r0, .inl g_r0))] sz) := by
  refine Met.ofW (cc := prog_15_method_38_code) (maxL := 5) (ret := (some .boolean)) (by decide) rfl ?_
  intro p e s m args below meth c s₁ B hml hv
  obtain ⟨rfl, hsz, hP, hK, hD0, hN⟩ := hv
  have hx := B.exec
  have hb := B.bytes
  have hr := B.returns
  have htw : ∀ w ∈ px_all, w.before _ s = true := fun w h => atoms_spec (ws := px_s83) B.pre w (List.mem_cons_of_mem _ h)
  have hown : s.vm.findClass "MatroidDeskModel" = some m.cls := findClass_of_methodNamed B.named
  have hlocks := B.notSynchronized
  subst hsz
  have hD := hD0.self (sz := s.heap.size)
  generalize hAe : va_A [(r0x, .inl (c_r0, n_r0, .inl g_r0))] s.heap.size = A at hD ⊢
  have hA : ∀ q : Nat, s.heap.size ≤ q → A q := fun q h => by rw [← hAe]; exact Or.inr h
  have hS : va_S A s.heap s.heap [] := va_S.rf
  have hP : va_P (dC, dI) vwCl [(r0x, .inl (c_r0, n_r0, .inl g_r0))] s.heap := hP
  have hl := lv_entry ([.ref r0x, .int a1x]) (n := 5) (Nat.le_of_ble_eq_true rfl)
  rw [lg_entry_eq]
  generalize (lg_sl ([.ref r0x, .int a1x]) ++ List.replicate (5 - (lg_sl ([.ref r0x, .int a1x])).length) Slot.unset).toArray = ls at hl ⊢
  have hl : lv_has ls 5 [(0, .ref r0x), (1, .int a1x)] := hl
  generalize hQ : MQ _ _ _ _ _ _ _ = Q
  have S59 : ∀ (x1 : Int32) (x2 : Int32) (x3 : Int32) (y0 : Int32) (g_r0 : Nat → Int32) (H : Heap) (locs : List Loc) (ls : Array Slot), va_P (dC, dI) vwCl [(r0x, .inl (c_r0, n_r0, .inl g_r0))] H → va_D A [(r0x, .inl (c_r0, n_r0, .inl g_r0))] → va_S A s.heap H locs → lv_has ls 5 [(0, .ref r0x), (1, .int x1), (2, .int x2), (3, .int x3)] → w83_L59 n_r0 post x1 x2 x3 y0 g_r0 → W p l e (headSpec px_s83 ({ frames := 0, cells := 0, slots := 0, locals := 0 })).room s m ([.ref r0x, .int a1x]).toArray below meth c H locs 0 0 Q (F0 m 59 ls [.int y0]) := by
    intro x1 x2 x3 y0 g_r0 H locs ls hP hD hS hl hw
    unfold w83_L59 at hw
    obtain ⟨hz9, hw⟩ := hw
    rw [← hQ]
    exact W.zret (v := y0) hx hb hr hz9 (fun t ht hW => ⟨⟨y0, g_r0, rfl, hw, by rw [ht]; exact hP, va_K.moved hW.alike hK, hD⟩, hS.F ht⟩) hS.2.2 px_d83_59
  have S4 : ∀ (k4 : Nat) (x1 : Int32) (x2 : Int32) (x3 : Int32) (g_r0 : Nat → Int32) (H : Heap) (locs : List Loc) (ls : Array Slot), va_P (dC, dI) vwCl [(r0x, .inl (c_r0, n_r0, .inl g_r0))] H → va_D A [(r0x, .inl (c_r0, n_r0, .inl g_r0))] → va_S A s.heap H locs → lv_has ls 5 [(0, .ref r0x), (1, .int x1), (2, .int x2), (3, .int x3)] → w83_L4 n_r0 post k4 x1 x2 x3 g_r0 → W p l e (headSpec px_s83 ({ frames := 0, cells := 0, slots := 0, locals := 0 })).room s m ([.ref r0x, .int a1x]).toArray below meth c H locs 0 0 Q (F0 m 4 ls []) := by
    intro k4
    induction k4 with
    | zero => intro x1 x2 x3 g_r0 H locs ls hP hD hS hl hw; exact False.elim hw
    | succ k4 ih4 =>
      have S12 : ∀ (k12 : Nat) (x1 : Int32) (x2 : Int32) (x3 : Int32) (x4 : Int32) (g_r0 : Nat → Int32) (H : Heap) (locs : List Loc) (ls : Array Slot), va_P (dC, dI) vwCl [(r0x, .inl (c_r0, n_r0, .inl g_r0))] H → va_D A [(r0x, .inl (c_r0, n_r0, .inl g_r0))] → va_S A s.heap H locs → lv_has ls 5 [(0, .ref r0x), (1, .int x1), (2, .int x2), (3, .int x3), (4, .int x4)] → w83_L12 (w83_L4 n_r0 post k4) n_r0 post k12 x1 x2 x3 x4 g_r0 → W p l e (headSpec px_s83 ({ frames := 0, cells := 0, slots := 0, locals := 0 })).room s m ([.ref r0x, .int a1x]).toArray below meth c H locs 0 0 Q (F0 m 12 ls []) := by
        intro k12
        induction k12 with
        | zero => intro x1 x2 x3 x4 g_r0 H locs ls hP hD hS hl hw; exact False.elim hw
        | succ k12 ih12 =>
          have S35 : ∀ (x1 : Int32) (x2 : Int32) (x3 : Int32) (x4 : Int32) (y0 : Int32) (g_r0 : Nat → Int32) (H : Heap) (locs : List Loc) (ls : Array Slot), va_P (dC, dI) vwCl [(r0x, .inl (c_r0, n_r0, .inl g_r0))] H → va_D A [(r0x, .inl (c_r0, n_r0, .inl g_r0))] → va_S A s.heap H locs → lv_has ls 5 [(0, .ref r0x), (1, .int x1), (2, .int x2), (3, .int x3), (4, .int x4)] → w83_L35 (w83_L4 n_r0 post k4) (w83_L12 (w83_L4 n_r0 post k4) n_r0 post k12) n_r0 post x1 x2 x3 x4 y0 g_r0 → W p l e (headSpec px_s83 ({ frames := 0, cells := 0, slots := 0, locals := 0 })).room s m ([.ref r0x, .int a1x]).toArray below meth c H locs 0 0 Q (F0 m 35 ls [.int y0]) := by
            intro x1 x2 x3 x4 y0 g_r0 H locs ls hP hD hS hl hw
            unfold w83_L35 at hw
            refine lv_istore_n (lv' := [(2, .int y0), (0, .ref r0x), (1, .int x1), (3, .int x3), (4, .int x4)]) hx hb px_d83_35 rfl hl (by decide) rfl (fun ls hl => ?_)
            obtain ⟨z1, ez1⟩ : ∃ y : Int32, y = x4 + 1 := ⟨_, rfl⟩
            have hw := hw z1 ez1
            refine lv_iinc (v := z1) (lv' := [(4, .int z1), (2, .int y0), (0, .ref r0x), (1, .int x1), (3, .int x3)]) hx hb px_d83_36 hl (k := 4) rfl (by rw [ez1]; rfl) (by decide) rfl (fun ls hl => ?_)
            refine lv_goto (tgt := 12) hx hb px_d83_39 (by decide) ?_
            exact ih12 x1 y0 x3 z1 g_r0 H locs ls hP hD hS (lv_sub hl [2, 3, 1, 4, 0] rfl) hw
          intro x1 x2 x3 x4 g_r0 H locs ls hP hD hS hl hw
          unfold w83_L12 at hw
          refine lv_iload hx hb px_d83_12 (lv_at hl 4 rfl) ?_
          refine lv_iload_n hx hb px_d83_14 rfl (lv_at hl 3 rfl) ?_
          refine lv_icmp_ge (tgt := 42) hx hb px_d83_15 (by decide) (fun c15 => ?_) (fun c15 => ?_)
          · have hw := hw.1 c15
            obtain ⟨z2, ez2⟩ : ∃ y : Int32, y = x3 + 1 := ⟨_, rfl⟩
            have hw := hw z2 ez2
            refine lv_iinc (v := z2) (lv' := [(3, .int z2), (0, .ref r0x), (1, .int x1), (2, .int x2), (4, .int x4)]) hx hb px_d83_42 hl (k := 3) rfl (by rw [ez2]; rfl) (by decide) rfl (fun ls hl => ?_)
            refine lv_goto (tgt := 4) hx hb px_d83_45 (by decide) ?_
            exact ih4 x1 x2 z2 g_r0 H locs ls hP hD hS (lv_sub hl [1, 2, 3, 0] rfl) hw
          · have hw := hw.2 c15
            refine lv_aload_n hx hb px_d83_18 rfl (lv_at hl 0 rfl) ?_
            refine lv_iload hx hb px_d83_19 (lv_at hl 4 rfl) ?_
            obtain ⟨hi21, hw⟩ := hw
            refine va_iald hx hb hK hP 0 0 rfl rfl hi21 px_d83_21 ?_
            refine lv_aload_n hx hb px_d83_22 rfl (lv_at hl 0 rfl) ?_
            refine lv_iload_n hx hb px_d83_23 rfl (lv_at hl 3 rfl) ?_
            obtain ⟨hi24, hw⟩ := hw
            refine va_iald hx hb hK hP 0 0 rfl rfl hi24 px_d83_24 ?_
            refine lv_icmp_le (tgt := 34) hx hb px_d83_25 (by decide) (fun c25 => ?_) (fun c25 => ?_)
            · have hw := hw.1 c25
              refine lv_iload_n hx hb px_d83_34 rfl (lv_at hl 2 rfl) ?_
              exact S35 x1 x2 x3 x4 x2 g_r0 H locs ls hP hD hS (lv_sub hl [0, 1, 2, 3, 4] rfl) hw
            · have hw := hw.2 c25
              refine lv_iload_n hx hb px_d83_28 rfl (lv_at hl 2 rfl) ?_
              refine lv_iconst (v := 1) hx hb px_d83_29 (by decide) ?_
              refine lv_iadd hx hb px_d83_30 ?_
              refine lv_goto (tgt := 35) hx hb px_d83_31 (by decide) ?_
              exact S35 x1 x2 x3 x4 (x2 + 1) g_r0 H locs ls hP hD hS (lv_sub hl [0, 1, 2, 3, 4] rfl) hw
      intro x1 x2 x3 g_r0 H locs ls hP hD hS hl hw
      unfold w83_L4 at hw
      refine lv_iload_n hx hb px_d83_4 rfl (lv_at hl 3 rfl) ?_
      refine lv_iload_n hx hb px_d83_5 rfl (lv_at hl 1 rfl) ?_
      refine lv_icmp_ge (tgt := 48) hx hb px_d83_6 (by decide) (fun c6 => ?_) (fun c6 => ?_)
      · have hw := hw.1 c6
        refine lv_iload_n hx hb px_d83_48 rfl (lv_at hl 2 rfl) ?_
        refine lv_iconst (v := 2) hx hb px_d83_49 (by decide) ?_
        refine lv_irem hx hb px_d83_50 (by decide +kernel) ?_
        refine lv_if_ne (tgt := 58) hx hb px_d83_51 (by decide) (fun c51 => ?_) (fun c51 => ?_)
        · have hw := hw.1 c51
          refine lv_iconst (v := 0) hx hb px_d83_58 (by decide) ?_
          exact S59 x1 x2 x3 0 g_r0 H locs ls hP hD hS (lv_sub hl [0, 1, 2, 3] rfl) hw
        · have hw := hw.2 c51
          refine lv_iconst (v := 1) hx hb px_d83_54 (by decide) ?_
          refine lv_goto (tgt := 59) hx hb px_d83_55 (by decide) ?_
          exact S59 x1 x2 x3 1 g_r0 H locs ls hP hD hS (lv_sub hl [0, 1, 2, 3] rfl) hw
      · have hw := hw.2 c6
        refine lv_iconst (v := 0) hx hb px_d83_9 (by decide) ?_
        refine lv_istore (lv' := [(4, .int 0), (0, .ref r0x), (1, .int x1), (2, .int x2), (3, .int x3)]) hx hb px_d83_10 hl (by decide) rfl (fun ls hl => ?_)
        obtain ⟨k9, hw⟩ := hw
        exact S12 k9 x1 x2 x3 0 g_r0 H locs ls hP hD hS (lv_sub hl [1, 2, 3, 4, 0] rfl) hw
  unfold w83_wp at hw
  have hS0 := hS
  obtain ⟨H, hH9⟩ : ∃ z, z = s.heap := ⟨_, rfl⟩
  have hP : va_P (dC, dI) vwCl [(r0x, .inl (c_r0, n_r0, .inl g_r0))] H := by rw [hH9]; exact hP
  obtain ⟨locs, hlo9⟩ : ∃ z : List Loc, z = [] := ⟨_, rfl⟩
  have hS : va_S A s.heap H locs := by rw [hH9, hlo9]; exact hS
  suffices hG : W p l e (headSpec px_s83 ({ frames := 0, cells := 0, slots := 0, locals := 0 })).room s m ([.ref r0x, .int a1x]).toArray below meth c H locs 0 0 Q (F0 m 0 ls []) by rw [hH9, hlo9] at hG; exact hG
  refine lv_iconst (v := 0) hx hb px_d83_0 (by decide) ?_
  refine lv_istore_n (lv' := [(2, .int 0), (0, .ref r0x), (1, .int a1x)]) hx hb px_d83_1 rfl hl (by decide) rfl (fun ls hl => ?_)
  refine lv_iconst (v := 0) hx hb px_d83_2 (by decide) ?_
  refine lv_istore_n (lv' := [(3, .int 0), (2, .int 0), (0, .ref r0x), (1, .int a1x)]) hx hb px_d83_3 rfl hl (by decide) rfl (fun ls hl => ?_)
  obtain ⟨k9, hw⟩ := hw
  exact S4 k9 a1x 0 0 g_r0 H locs ls hP hD hS (lv_sub hl [2, 3, 1, 0] rfl) hw

/-! MatroidDeskModel.determinantOf(III)I -/
def w85_L105 (post : Int32 → (Nat → Int32) → (Nat → Int32) → (Nat → Int32) → (Nat → Int32) → Prop) (x1 : Int32) (x2 : Int32) (x3 : Int32) (x4 : Int32) (x5 : Int32) (y0 : Int32) (iv : Nat → Int32) (g_elements : Nat → Int32) (g_signOf : Nat → Int32) (g_sorted : Nat → Int32) : Prop := post y0 iv g_elements g_signOf g_sorted
def w85_L57 (K6 : Int32 → Int32 → Int32 → Int32 → Int32 → (Nat → Int32) → (Nat → Int32) → (Nat → Int32) → (Nat → Int32) → Prop) (K15 : Int32 → Int32 → Int32 → Int32 → Int32 → Int32 → (Nat → Int32) → (Nat → Int32) → (Nat → Int32) → (Nat → Int32) → Prop) (post : Int32 → (Nat → Int32) → (Nat → Int32) → (Nat → Int32) → (Nat → Int32) → Prop) (x1 : Int32) (x2 : Int32) (x3 : Int32) (x4 : Int32) (x5 : Int32) (x6 : Int32) (iv : Nat → Int32) (g_elements : Nat → Int32) (g_signOf : Nat → Int32) (g_sorted : Nat → Int32) : Prop := ∀ z1 : Int32, z1 = x6 + 1 → K15 x1 x2 x3 x4 x5 z1 iv g_elements g_signOf g_sorted
def w85_L36 (K6 : Int32 → Int32 → Int32 → Int32 → Int32 → (Nat → Int32) → (Nat → Int32) → (Nat → Int32) → (Nat → Int32) → Prop) (K15 : Int32 → Int32 → Int32 → Int32 → Int32 → Int32 → (Nat → Int32) → (Nat → Int32) → (Nat → Int32) → (Nat → Int32) → Prop) (post : Int32 → (Nat → Int32) → (Nat → Int32) → (Nat → Int32) → (Nat → Int32) → Prop) (x1 : Int32) (x2 : Int32) (x3 : Int32) (x4 : Int32) (x5 : Int32) (x6 : Int32) (y0 : Int32) (iv : Nat → Int32) (g_elements : Nat → Int32) (g_signOf : Nat → Int32) (g_sorted : Nat → Int32) : Prop := (¬ ((y0 >>> (x6 &&& 31)) &&& 1) = 1 → w85_L57 K6 K15 post x1 x2 x3 x4 x5 x6 iv g_elements g_signOf g_sorted) ∧ (((y0 >>> (x6 &&& 31)) &&& 1) = 1 → vp_in x4 13 ∧ (∀ z2 : Int32, z2 = x4 + 1 → w85_L57 K6 K15 post x1 x2 x3 z2 x5 x6 iv g_elements g_signOf (upd g_sorted (Int32.toNatClampNeg x4) x6)))
def w85_L15 (K6 : Int32 → Int32 → Int32 → Int32 → Int32 → (Nat → Int32) → (Nat → Int32) → (Nat → Int32) → (Nat → Int32) → Prop) (post : Int32 → (Nat → Int32) → (Nat → Int32) → (Nat → Int32) → (Nat → Int32) → Prop) : Nat → Int32 → Int32 → Int32 → Int32 → Int32 → Int32 → (Nat → Int32) → (Nat → Int32) → (Nat → Int32) → (Nat → Int32) → Prop
  | 0 => fun _ _ _ _ _ _ _ _ _ _ => False
  | k + 1 => fun x1 x2 x3 x4 x5 x6 iv g_elements g_signOf g_sorted => vp_in x1 26 ∧ (((g_elements (Int32.toNatClampNeg x1)) ≤ x6 → ∀ z3 : Int32, z3 = x5 + 1 → K6 x1 x2 x3 x4 z3 iv g_elements g_signOf g_sorted) ∧ (¬ (g_elements (Int32.toNatClampNeg x1)) ≤ x6 → (¬ x5 = 0 → w85_L36 K6 (w85_L15 K6 post k) post x1 x2 x3 x4 x5 x6 x3 iv g_elements g_signOf g_sorted) ∧ (x5 = 0 → w85_L36 K6 (w85_L15 K6 post k) post x1 x2 x3 x4 x5 x6 x2 iv g_elements g_signOf g_sorted)))
def w85_L6 (post : Int32 → (Nat → Int32) → (Nat → Int32) → (Nat → Int32) → (Nat → Int32) → Prop) : Nat → Int32 → Int32 → Int32 → Int32 → Int32 → (Nat → Int32) → (Nat → Int32) → (Nat → Int32) → (Nat → Int32) → Prop
  | 0 => fun _ _ _ _ _ _ _ _ _ => False
  | k + 1 => fun x1 x2 x3 x4 x5 iv g_elements g_signOf g_sorted => (2 ≤ x5 → vp_in ((4096 * x1) + (x2 ||| x3)) 106496 ∧ (∀ z4 : Int32, z4 = g_signOf (Int32.toNatClampNeg ((4096 * x1) + (x2 ||| x3))) → w83_wp 13 (fun r91 v5 => (r91 = 0 → w85_L105 post x1 x2 x3 x4 z4 (-z4) iv g_elements g_signOf v5) ∧ (¬ r91 = 0 → w85_L105 post x1 x2 x3 x4 z4 z4 iv g_elements g_signOf v5)) x4 g_sorted)) ∧ (¬ 2 ≤ x5 → ∃ j15, w85_L15 (w85_L6 post k) post j15 x1 x2 x3 x4 x5 0 iv g_elements g_signOf g_sorted)
def w85_wp (post : Int32 → (Nat → Int32) → (Nat → Int32) → (Nat → Int32) → (Nat → Int32) → Prop) (a1x : Int32) (a2x : Int32) (a3x : Int32) (iv : Nat → Int32) (g_elements : Nat → Int32) (g_signOf : Nat → Int32) (g_sorted : Nat → Int32) : Prop := ∃ j6, w85_L6 post j6 a1x a2x a3x 0 0 iv g_elements g_signOf g_sorted
set_option maxHeartbeats 8000000 in
set_option maxRecDepth 100000 in
theorem w85_met (l : Launch) (dC : Nat → ClassId) (dI : Nat → Nat → Nat) (sz : Nat) (h0 : Nat) (rf : Nat → Nat) (c_elements : ClassId) (c_signOf : ClassId) (c_sorted : ClassId) (a1x : Int32) (a2x : Int32) (a3x : Int32) (iv : Nat → Int32) (g_elements : Nat → Int32) (g_signOf : Nat → Int32) (g_sorted : Nat → Int32) (post : Int32 → (Nat → Int32) → (Nat → Int32) → (Nat → Int32) → (Nat → Int32) → Prop) (hw : w85_wp post a1x a2x a3x iv g_elements g_signOf g_sorted) : Met l px_y85 px_s85 ({ frames := 1, cells := 0, slots := 0, locals := 24 }) (va_Pc [.ref h0, .int a1x, .int a2x, .int a3x] (fun U => U.heap.size = sz ∧ va_P (dC, dI) vwCl [(h0, .inr (8, px_mf rf iv)), (rf 19, .inl (c_elements, 26, .inl g_elements)), (rf 26, .inl (c_signOf, 106496, .inl g_signOf)), (rf 31, .inl (c_sorted, 13, .inl g_sorted))] U.heap ∧ va_K (dC, dI) vwCl [(c_elements, .int), (c_signOf, .byte), (c_sorted, .int)] U ∧ va_D (fun _ => True) [(h0, .inr (8, px_mf rf iv)), (rf 19, .inl (c_elements, 26, .inl g_elements)), (rf 26, .inl (c_signOf, 106496, .inl g_signOf)), (rf 31, .inl (c_sorted, 13, .inl g_sorted))] ∧ px_N U)) (va_Qi (fun (r : Int32) (u : (Nat → Int32) × (Nat → Int32) × (Nat → Int32) × (Nat → Int32)) => post r u.1 u.2.1 u.2.2.1 u.2.2.2) (fun (u : (Nat → Int32) × (Nat → Int32) × (Nat → Int32) × (Nat → Int32)) (t : State) => va_P (dC, dI) vwCl [(h0, .inr (8, px_mf rf u.1)), (rf 19, .inl (c_elements, 26, .inl u.2.1)), (rf 26, .inl (c_signOf, 106496, .inl u.2.2.1)), (rf 31, .inl (c_sorted, 13, .inl u.2.2.2))] t.heap ∧ va_K (dC, dI) vwCl [(c_elements, .int), (c_signOf, .byte), (c_sorted, .int)] t ∧ va_D (va_A [(h0, .inr (8, px_mf rf iv)), (rf 19, .inl (c_elements, 26, .inl g_elements)), (rf 26, .inl (c_signOf, 106496, .inl g_signOf)), (rf 31, .inl (c_sorted, 13, .inl g_sorted))] sz) [(h0, .inr (8, px_mf rf u.1)), (rf 19, .inl (c_elements, 26, .inl u.2.1)), (rf 26, .inl (c_signOf, 106496, .inl u.2.2.1)), (rf 31, .inl (c_sorted, 13, .inl u.2.2.2))]) (va_A [(h0, .inr (8, px_mf rf iv)), (rf 19, .inl (c_elements, 26, .inl g_elements)), (rf 26, .inl (c_signOf, 106496, .inl g_signOf)), (rf 31, .inl (c_sorted, 13, .inl g_sorted))] sz)) 0 0 (va_A [(h0, .inr (8, px_mf rf iv)), (rf 19, .inl (c_elements, 26, .inl g_elements)), (rf 26, .inl (c_signOf, 106496, .inl g_signOf)), (rf 31, .inl (c_sorted, 13, .inl g_sorted))] sz) := by
  refine Met.ofW (cc := prog_15_method_40_code) (maxL := 7) (ret := (some .int)) (by decide) rfl ?_
  intro p e s m args below meth c s₁ B hml hv
  obtain ⟨rfl, hsz, hP, hK, hD0, hN⟩ := hv
  have hx := B.exec
  have hb := B.bytes
  have hr := B.returns
  have htw : ∀ w ∈ px_all, w.before _ s = true := fun w h => atoms_spec (ws := px_s85) B.pre w (List.mem_cons_of_mem _ h)
  have hown : s.vm.findClass "MatroidDeskModel" = some m.cls := findClass_of_methodNamed B.named
  have hlocks := B.notSynchronized
  subst hsz
  have hD := hD0.self (sz := s.heap.size)
  generalize hAe : va_A [(h0, .inr (8, px_mf rf iv)), (rf 19, .inl (c_elements, 26, .inl g_elements)), (rf 26, .inl (c_signOf, 106496, .inl g_signOf)), (rf 31, .inl (c_sorted, 13, .inl g_sorted))] s.heap.size = A at hD ⊢
  have hA : ∀ q : Nat, s.heap.size ≤ q → A q := fun q h => by rw [← hAe]; exact Or.inr h
  have hS : va_S A s.heap s.heap [] := va_S.rf
  have hP : va_P (dC, dI) vwCl [(h0, .inr (8, px_mf rf iv)), (rf 19, .inl (c_elements, 26, .inl g_elements)), (rf 26, .inl (c_signOf, 106496, .inl g_signOf)), (rf 31, .inl (c_sorted, 13, .inl g_sorted))] s.heap := hP
  have hl := lv_entry ([.ref h0, .int a1x, .int a2x, .int a3x]) (n := 7) (Nat.le_of_ble_eq_true rfl)
  rw [lg_entry_eq]
  generalize (lg_sl ([.ref h0, .int a1x, .int a2x, .int a3x]) ++ List.replicate (7 - (lg_sl ([.ref h0, .int a1x, .int a2x, .int a3x])).length) Slot.unset).toArray = ls at hl ⊢
  have hl : lv_has ls 7 [(0, .ref h0), (1, .int a1x), (2, .int a2x), (3, .int a3x)] := hl
  generalize hQ : MQ _ _ _ _ _ _ _ = Q
  have S105 : ∀ (x1 : Int32) (x2 : Int32) (x3 : Int32) (x4 : Int32) (x5 : Int32) (y0 : Int32) (iv : Nat → Int32) (g_elements : Nat → Int32) (g_signOf : Nat → Int32) (g_sorted : Nat → Int32) (H : Heap) (locs : List Loc) (ls : Array Slot), va_P (dC, dI) vwCl [(h0, .inr (8, px_mf rf iv)), (rf 19, .inl (c_elements, 26, .inl g_elements)), (rf 26, .inl (c_signOf, 106496, .inl g_signOf)), (rf 31, .inl (c_sorted, 13, .inl g_sorted))] H → va_D A [(h0, .inr (8, px_mf rf iv)), (rf 19, .inl (c_elements, 26, .inl g_elements)), (rf 26, .inl (c_signOf, 106496, .inl g_signOf)), (rf 31, .inl (c_sorted, 13, .inl g_sorted))] → va_S A s.heap H locs → lv_has ls 7 [(0, .ref h0), (1, .int x1), (2, .int x2), (3, .int x3), (4, .int x4), (5, .int x5)] → w85_L105 post x1 x2 x3 x4 x5 y0 iv g_elements g_signOf g_sorted → W p l e (headSpec px_s85 ({ frames := 1, cells := 0, slots := 0, locals := 24 })).room s m ([.ref h0, .int a1x, .int a2x, .int a3x]).toArray below meth c H locs 0 0 Q (F0 m 105 ls [.int y0]) := by
    intro x1 x2 x3 x4 x5 y0 iv g_elements g_signOf g_sorted H locs ls hP hD hS hl hw
    unfold w85_L105 at hw
    rw [← hQ]
    exact W.iret (v := y0) hx hb hr (fun t ht hW => ⟨⟨y0, (iv, g_elements, g_signOf, g_sorted), rfl, hw, by rw [ht]; exact hP, va_K.moved hW.alike hK, hD⟩, hS.F ht⟩) hS.2.2 px_d85_105
  have S6 : ∀ (k6 : Nat) (x1 : Int32) (x2 : Int32) (x3 : Int32) (x4 : Int32) (x5 : Int32) (iv : Nat → Int32) (g_elements : Nat → Int32) (g_signOf : Nat → Int32) (g_sorted : Nat → Int32) (H : Heap) (locs : List Loc) (ls : Array Slot), va_P (dC, dI) vwCl [(h0, .inr (8, px_mf rf iv)), (rf 19, .inl (c_elements, 26, .inl g_elements)), (rf 26, .inl (c_signOf, 106496, .inl g_signOf)), (rf 31, .inl (c_sorted, 13, .inl g_sorted))] H → va_D A [(h0, .inr (8, px_mf rf iv)), (rf 19, .inl (c_elements, 26, .inl g_elements)), (rf 26, .inl (c_signOf, 106496, .inl g_signOf)), (rf 31, .inl (c_sorted, 13, .inl g_sorted))] → va_S A s.heap H locs → lv_has ls 7 [(0, .ref h0), (1, .int x1), (2, .int x2), (3, .int x3), (4, .int x4), (5, .int x5)] → w85_L6 post k6 x1 x2 x3 x4 x5 iv g_elements g_signOf g_sorted → W p l e (headSpec px_s85 ({ frames := 1, cells := 0, slots := 0, locals := 24 })).room s m ([.ref h0, .int a1x, .int a2x, .int a3x]).toArray below meth c H locs 0 0 Q (F0 m 6 ls []) := by
    intro k6
    induction k6 with
    | zero => intro x1 x2 x3 x4 x5 iv g_elements g_signOf g_sorted H locs ls hP hD hS hl hw; exact False.elim hw
    | succ k6 ih6 =>
      have S15 : ∀ (k15 : Nat) (x1 : Int32) (x2 : Int32) (x3 : Int32) (x4 : Int32) (x5 : Int32) (x6 : Int32) (iv : Nat → Int32) (g_elements : Nat → Int32) (g_signOf : Nat → Int32) (g_sorted : Nat → Int32) (H : Heap) (locs : List Loc) (ls : Array Slot), va_P (dC, dI) vwCl [(h0, .inr (8, px_mf rf iv)), (rf 19, .inl (c_elements, 26, .inl g_elements)), (rf 26, .inl (c_signOf, 106496, .inl g_signOf)), (rf 31, .inl (c_sorted, 13, .inl g_sorted))] H → va_D A [(h0, .inr (8, px_mf rf iv)), (rf 19, .inl (c_elements, 26, .inl g_elements)), (rf 26, .inl (c_signOf, 106496, .inl g_signOf)), (rf 31, .inl (c_sorted, 13, .inl g_sorted))] → va_S A s.heap H locs → lv_has ls 7 [(0, .ref h0), (1, .int x1), (2, .int x2), (3, .int x3), (4, .int x4), (5, .int x5), (6, .int x6)] → w85_L15 (w85_L6 post k6) post k15 x1 x2 x3 x4 x5 x6 iv g_elements g_signOf g_sorted → W p l e (headSpec px_s85 ({ frames := 1, cells := 0, slots := 0, locals := 24 })).room s m ([.ref h0, .int a1x, .int a2x, .int a3x]).toArray below meth c H locs 0 0 Q (F0 m 15 ls []) := by
        intro k15
        induction k15 with
        | zero => intro x1 x2 x3 x4 x5 x6 iv g_elements g_signOf g_sorted H locs ls hP hD hS hl hw; exact False.elim hw
        | succ k15 ih15 =>
          have S57 : ∀ (x1 : Int32) (x2 : Int32) (x3 : Int32) (x4 : Int32) (x5 : Int32) (x6 : Int32) (iv : Nat → Int32) (g_elements : Nat → Int32) (g_signOf : Nat → Int32) (g_sorted : Nat → Int32) (H : Heap) (locs : List Loc) (ls : Array Slot), va_P (dC, dI) vwCl [(h0, .inr (8, px_mf rf iv)), (rf 19, .inl (c_elements, 26, .inl g_elements)), (rf 26, .inl (c_signOf, 106496, .inl g_signOf)), (rf 31, .inl (c_sorted, 13, .inl g_sorted))] H → va_D A [(h0, .inr (8, px_mf rf iv)), (rf 19, .inl (c_elements, 26, .inl g_elements)), (rf 26, .inl (c_signOf, 106496, .inl g_signOf)), (rf 31, .inl (c_sorted, 13, .inl g_sorted))] → va_S A s.heap H locs → lv_has ls 7 [(0, .ref h0), (1, .int x1), (2, .int x2), (3, .int x3), (4, .int x4), (5, .int x5), (6, .int x6)] → w85_L57 (w85_L6 post k6) (w85_L15 (w85_L6 post k6) post k15) post x1 x2 x3 x4 x5 x6 iv g_elements g_signOf g_sorted → W p l e (headSpec px_s85 ({ frames := 1, cells := 0, slots := 0, locals := 24 })).room s m ([.ref h0, .int a1x, .int a2x, .int a3x]).toArray below meth c H locs 0 0 Q (F0 m 57 ls []) := by
            intro x1 x2 x3 x4 x5 x6 iv g_elements g_signOf g_sorted H locs ls hP hD hS hl hw
            unfold w85_L57 at hw
            obtain ⟨z1, ez1⟩ : ∃ y : Int32, y = x6 + 1 := ⟨_, rfl⟩
            have hw := hw z1 ez1
            refine lv_iinc (v := z1) (lv' := [(6, .int z1), (0, .ref h0), (1, .int x1), (2, .int x2), (3, .int x3), (4, .int x4), (5, .int x5)]) hx hb px_d85_57 hl (k := 6) rfl (by rw [ez1]; rfl) (by decide) rfl (fun ls hl => ?_)
            refine lv_goto (tgt := 15) hx hb px_d85_60 (by decide) ?_
            exact ih15 x1 x2 x3 x4 x5 z1 iv g_elements g_signOf g_sorted H locs ls hP hD hS (lv_sub hl [1, 2, 3, 4, 5, 6, 0] rfl) hw
          have S36 : ∀ (x1 : Int32) (x2 : Int32) (x3 : Int32) (x4 : Int32) (x5 : Int32) (x6 : Int32) (y0 : Int32) (iv : Nat → Int32) (g_elements : Nat → Int32) (g_signOf : Nat → Int32) (g_sorted : Nat → Int32) (H : Heap) (locs : List Loc) (ls : Array Slot), va_P (dC, dI) vwCl [(h0, .inr (8, px_mf rf iv)), (rf 19, .inl (c_elements, 26, .inl g_elements)), (rf 26, .inl (c_signOf, 106496, .inl g_signOf)), (rf 31, .inl (c_sorted, 13, .inl g_sorted))] H → va_D A [(h0, .inr (8, px_mf rf iv)), (rf 19, .inl (c_elements, 26, .inl g_elements)), (rf 26, .inl (c_signOf, 106496, .inl g_signOf)), (rf 31, .inl (c_sorted, 13, .inl g_sorted))] → va_S A s.heap H locs → lv_has ls 7 [(0, .ref h0), (1, .int x1), (2, .int x2), (3, .int x3), (4, .int x4), (5, .int x5), (6, .int x6)] → w85_L36 (w85_L6 post k6) (w85_L15 (w85_L6 post k6) post k15) post x1 x2 x3 x4 x5 x6 y0 iv g_elements g_signOf g_sorted → W p l e (headSpec px_s85 ({ frames := 1, cells := 0, slots := 0, locals := 24 })).room s m ([.ref h0, .int a1x, .int a2x, .int a3x]).toArray below meth c H locs 0 0 Q (F0 m 36 ls [.int y0]) := by
            intro x1 x2 x3 x4 x5 x6 y0 iv g_elements g_signOf g_sorted H locs ls hP hD hS hl hw
            unfold w85_L36 at hw
            refine lv_iload hx hb px_d85_36 (lv_at hl 6 rfl) ?_
            refine lv_ishr hx hb px_d85_38 ?_
            refine lv_iconst (v := 1) hx hb px_d85_39 (by decide) ?_
            refine lv_iand hx hb px_d85_40 ?_
            refine lv_iconst (v := 1) hx hb px_d85_41 (by decide) ?_
            refine lv_icmp_ne (tgt := 57) hx hb px_d85_42 (by decide) (fun c42 => ?_) (fun c42 => ?_)
            · have hw := hw.1 c42
              exact S57 x1 x2 x3 x4 x5 x6 iv g_elements g_signOf g_sorted H locs ls hP hD hS (lv_sub hl [0, 1, 2, 3, 4, 5, 6] rfl) hw
            · have hw := hw.2 c42
              refine lv_aload_n hx hb px_d85_45 rfl (lv_at hl 0 rfl) ?_
              refine va_get (D := (dC, dI)) (ci := 8) (v := .ref (rf 31)) (C := "MatroidDeskModel") (T := px_T8) (N := 53) hx hb htw px_in8 hown hK hP 0 rfl rfl 31 (by decide) (htw _ px_w516) (fun _ h9 => h9) rfl px_d85_46 ?_
              refine lv_iload hx hb px_d85_49 (lv_at hl 4 rfl) ?_
              refine lv_iload hx hb px_d85_51 (lv_at hl 6 rfl) ?_
              obtain ⟨hi53, hw⟩ := hw
              refine va_iast hx hb hK hP hD hS 3 2 rfl rfl hi53 px_d85_53 (fun H locs hP hD hS => ?_)
              have hP : va_P (dC, dI) vwCl [(h0, .inr (8, px_mf rf iv)), (rf 19, .inl (c_elements, 26, .inl g_elements)), (rf 26, .inl (c_signOf, 106496, .inl g_signOf)), (rf 31, .inl (c_sorted, 13, .inl (upd g_sorted (Int32.toNatClampNeg x4) x6)))] H := hP
              have hD : va_D A [(h0, .inr (8, px_mf rf iv)), (rf 19, .inl (c_elements, 26, .inl g_elements)), (rf 26, .inl (c_signOf, 106496, .inl g_signOf)), (rf 31, .inl (c_sorted, 13, .inl (upd g_sorted (Int32.toNatClampNeg x4) x6)))] := hD
              obtain ⟨z2, ez2⟩ : ∃ y : Int32, y = x4 + 1 := ⟨_, rfl⟩
              have hw := hw z2 ez2
              refine lv_iinc (v := z2) (lv' := [(4, .int z2), (0, .ref h0), (1, .int x1), (2, .int x2), (3, .int x3), (5, .int x5), (6, .int x6)]) hx hb px_d85_54 hl (k := 4) rfl (by rw [ez2]; rfl) (by decide) rfl (fun ls hl => ?_)
              exact S57 x1 x2 x3 z2 x5 x6 iv g_elements g_signOf (upd g_sorted (Int32.toNatClampNeg x4) x6) H locs ls hP hD hS (lv_sub hl [1, 2, 3, 4, 0, 5, 6] rfl) hw
          intro x1 x2 x3 x4 x5 x6 iv g_elements g_signOf g_sorted H locs ls hP hD hS hl hw
          unfold w85_L15 at hw
          refine lv_iload hx hb px_d85_15 (lv_at hl 6 rfl) ?_
          refine lv_aload_n hx hb px_d85_17 rfl (lv_at hl 0 rfl) ?_
          refine va_get (D := (dC, dI)) (ci := 8) (v := .ref (rf 19)) (C := "MatroidDeskModel") (T := px_T8) (N := 53) hx hb htw px_in8 hown hK hP 0 rfl rfl 19 (by decide) (htw _ px_w502) (fun _ h9 => h9) rfl px_d85_18 ?_
          refine lv_iload_n hx hb px_d85_21 rfl (lv_at hl 1 rfl) ?_
          obtain ⟨hi22, hw⟩ := hw
          refine va_iald hx hb hK hP 1 0 rfl rfl hi22 px_d85_22 ?_
          refine lv_icmp_ge (tgt := 63) hx hb px_d85_23 (by decide) (fun c23 => ?_) (fun c23 => ?_)
          · have hw := hw.1 c23
            obtain ⟨z3, ez3⟩ : ∃ y : Int32, y = x5 + 1 := ⟨_, rfl⟩
            have hw := hw z3 ez3
            refine lv_iinc (v := z3) (lv' := [(5, .int z3), (0, .ref h0), (1, .int x1), (2, .int x2), (3, .int x3), (4, .int x4), (6, .int x6)]) hx hb px_d85_63 hl (k := 5) rfl (by rw [ez3]; rfl) (by decide) rfl (fun ls hl => ?_)
            refine lv_goto (tgt := 6) hx hb px_d85_66 (by decide) ?_
            exact ih6 x1 x2 x3 x4 z3 iv g_elements g_signOf g_sorted H locs ls hP hD hS (lv_sub hl [1, 2, 3, 4, 5, 0] rfl) hw
          · have hw := hw.2 c23
            refine lv_iload hx hb px_d85_26 (lv_at hl 5 rfl) ?_
            refine lv_if_ne (tgt := 35) hx hb px_d85_28 (by decide) (fun c28 => ?_) (fun c28 => ?_)
            · have hw := hw.1 c28
              refine lv_iload_n hx hb px_d85_35 rfl (lv_at hl 3 rfl) ?_
              exact S36 x1 x2 x3 x4 x5 x6 x3 iv g_elements g_signOf g_sorted H locs ls hP hD hS (lv_sub hl [0, 1, 2, 3, 4, 5, 6] rfl) hw
            · have hw := hw.2 c28
              refine lv_iload_n hx hb px_d85_31 rfl (lv_at hl 2 rfl) ?_
              refine lv_goto (tgt := 36) hx hb px_d85_32 (by decide) ?_
              exact S36 x1 x2 x3 x4 x5 x6 x2 iv g_elements g_signOf g_sorted H locs ls hP hD hS (lv_sub hl [0, 1, 2, 3, 4, 5, 6] rfl) hw
      intro x1 x2 x3 x4 x5 iv g_elements g_signOf g_sorted H locs ls hP hD hS hl hw
      unfold w85_L6 at hw
      refine lv_iload hx hb px_d85_6 (lv_at hl 5 rfl) ?_
      refine lv_iconst (v := 2) hx hb px_d85_8 (by decide) ?_
      refine lv_icmp_ge (tgt := 69) hx hb px_d85_9 (by decide) (fun c9 => ?_) (fun c9 => ?_)
      · have hw := hw.1 c9
        refine lv_aload_n hx hb px_d85_69 rfl (lv_at hl 0 rfl) ?_
        refine va_get (D := (dC, dI)) (ci := 8) (v := .ref (rf 26)) (C := "MatroidDeskModel") (T := px_T8) (N := 53) hx hb htw px_in8 hown hK hP 0 rfl rfl 26 (by decide) (htw _ px_w511) (fun _ h9 => h9) rfl px_d85_70 ?_
        refine lv_sipush (v := 4096) hx hb px_d85_73 (by decide) ?_
        refine lv_iload_n hx hb px_d85_76 rfl (lv_at hl 1 rfl) ?_
        refine lv_imul hx hb px_d85_77 ?_
        refine lv_iload_n hx hb px_d85_78 rfl (lv_at hl 2 rfl) ?_
        refine lv_iload_n hx hb px_d85_79 rfl (lv_at hl 3 rfl) ?_
        refine lv_ior hx hb px_d85_80 ?_
        refine lv_iadd hx hb px_d85_81 ?_
        obtain ⟨hi82, hw⟩ := hw
        refine va_bald hx hb hK hP 2 1 rfl rfl hi82 px_d85_82 ?_
        refine lv_topi (fun z4 ez4 => ?_)
        have hw := hw z4 ez4
        refine lv_istore (lv' := [(5, .int z4), (0, .ref h0), (1, .int x1), (2, .int x2), (3, .int x3), (4, .int x4)]) hx hb px_d85_83 hl (by decide) rfl (fun ls hl => ?_)
        refine lv_aload_n hx hb px_d85_85 rfl (lv_at hl 1 rfl) ?_
        refine va_get (D := (dC, dI)) (ci := 8) (v := .ref (rf 31)) (C := "MatroidDeskModel") (T := px_T8) (N := 53) hx hb htw px_in8 hown hK hP 0 rfl rfl 31 (by decide) (htw _ px_w516) (fun _ h9 => h9) rfl px_d85_86 ?_
        refine lv_iload hx hb px_d85_89 (lv_at hl 5 rfl) ?_
        have hPc := hP.sub (ws' := [(rf 31, .inl (c_sorted, 13, .inl g_sorted))]) [3] rfl
        have hDc := hD.sub (ws' := [(rf 31, .inl (c_sorted, 13, .inl g_sorted))]) [3] (by decide) rfl
        have hKc := hK.sub (tys' := [(c_sorted, .int)]) [2] rfl
        have hFc := va_free (wc := [(rf 31, .inl (c_sorted, 13, .inl g_sorted))]) hD hS hA [3] rfl
        refine va_calli (va_runS (As := [.ref (rf 31), .int x4]) (rest := []) ⟨hx, hb, hml, hown, htw⟩ (w83_met l dC dI H.size (rf 31) 13 c_sorted x4 g_sorted _ hw) (cwS 2 htw (px_gs px_w608 px_w600 px_w94 px_g83) rfl rfl rfl (by decide +kernel) ⟨Nat.le_of_ble_eq_true rfl, Nat.le_of_ble_eq_true rfl⟩) ⟨fun a U g mk q => by obtain ⟨q0, q1, qP, qK, qD, qN⟩ := q; exact ⟨q0, q1, qP, va_K.moved (u := U) (U := U.calling g mk a) (Vm.Alike.refl U.vm) qK, qD, qN.same rfl⟩, fun U hU hW => ⟨rfl, by rw [hU], by rw [hU]; exact hPc, va_K.moved hW.alike hKc, hDc.weaken (fun _ _ _ _ => trivial), hN.warm hW⟩⟩ rfl rfl hl.1 rfl (lv_room (Nat.le_of_ble_eq_true rfl)) px_d85_91 ⟨(Nat.le_of_ble_eq_true rfl), (Nat.le_of_ble_eq_true rfl)⟩) hS (fun q _ h => hFc q h) hFc (fun r91 u t H1 locs ht hvm hw hB hz1 hk1 hS => ?_)
        obtain ⟨v5, rfl⟩ : ∃ z, z = u := ⟨_, rfl⟩
        obtain ⟨hP1, hK1, hD1⟩ := hB
        rw [ht] at hP1
        have hK1 := va_K.moved hvm.symm hK1
        obtain ⟨hP, hD⟩ := va_join (wr := [(h0, .inr (8, px_mf rf iv)), (rf 19, .inl (c_elements, 26, .inl g_elements)), (rf 26, .inl (c_signOf, 106496, .inl g_signOf))]) (w1 := [(rf 31, .inl (c_sorted, 13, .inl v5))]) hP hD [3] [0, 1, 2] rfl rfl (by decide) (by decide) hk1 hFc hP1 hD1
        generalize H1 = H at hP hS ⊢
        have hP : va_P (dC, dI) vwCl [(h0, .inr (8, px_mf rf iv)), (rf 19, .inl (c_elements, 26, .inl g_elements)), (rf 26, .inl (c_signOf, 106496, .inl g_signOf)), (rf 31, .inl (c_sorted, 13, .inl v5))] H := hP
        have hD : va_D A [(h0, .inr (8, px_mf rf iv)), (rf 19, .inl (c_elements, 26, .inl g_elements)), (rf 26, .inl (c_signOf, 106496, .inl g_signOf)), (rf 31, .inl (c_sorted, 13, .inl v5))] := hD
        refine lv_if_eq (tgt := 102) hx hb px_d85_94 (by decide) (fun c94 => ?_) (fun c94 => ?_)
        · have hw := hw.1 c94
          refine lv_iload hx hb px_d85_102 (lv_at hl 0 rfl) ?_
          refine lv_ineg hx hb px_d85_104 ?_
          exact S105 x1 x2 x3 x4 z4 (-z4) iv g_elements g_signOf v5 H locs ls hP hD hS (lv_sub hl [1, 2, 3, 4, 5, 0] rfl) hw
        · have hw := hw.2 c94
          refine lv_iload hx hb px_d85_97 (lv_at hl 0 rfl) ?_
          refine lv_goto (tgt := 105) hx hb px_d85_99 (by decide) ?_
          exact S105 x1 x2 x3 x4 z4 z4 iv g_elements g_signOf v5 H locs ls hP hD hS (lv_sub hl [1, 2, 3, 4, 5, 0] rfl) hw
      · have hw := hw.2 c9
        refine lv_iconst (v := 0) hx hb px_d85_12 (by decide) ?_
        refine lv_istore (lv' := [(6, .int 0), (0, .ref h0), (1, .int x1), (2, .int x2), (3, .int x3), (4, .int x4), (5, .int x5)]) hx hb px_d85_13 hl (by decide) rfl (fun ls hl => ?_)
        obtain ⟨k9, hw⟩ := hw
        exact S15 k9 x1 x2 x3 x4 x5 0 iv g_elements g_signOf g_sorted H locs ls hP hD hS (lv_sub hl [1, 2, 3, 4, 5, 6, 0] rfl) hw
  unfold w85_wp at hw
  have hS0 := hS
  obtain ⟨H, hH9⟩ : ∃ z, z = s.heap := ⟨_, rfl⟩
  have hP : va_P (dC, dI) vwCl [(h0, .inr (8, px_mf rf iv)), (rf 19, .inl (c_elements, 26, .inl g_elements)), (rf 26, .inl (c_signOf, 106496, .inl g_signOf)), (rf 31, .inl (c_sorted, 13, .inl g_sorted))] H := by rw [hH9]; exact hP
  obtain ⟨locs, hlo9⟩ : ∃ z : List Loc, z = [] := ⟨_, rfl⟩
  have hS : va_S A s.heap H locs := by rw [hH9, hlo9]; exact hS
  suffices hG : W p l e (headSpec px_s85 ({ frames := 1, cells := 0, slots := 0, locals := 24 })).room s m ([.ref h0, .int a1x, .int a2x, .int a3x]).toArray below meth c H locs 0 0 Q (F0 m 0 ls []) by rw [hH9, hlo9] at hG; exact hG
  refine lv_iconst (v := 0) hx hb px_d85_0 (by decide) ?_
  refine lv_istore (lv' := [(4, .int 0), (0, .ref h0), (1, .int a1x), (2, .int a2x), (3, .int a3x)]) hx hb px_d85_1 hl (by decide) rfl (fun ls hl => ?_)
  refine lv_iconst (v := 0) hx hb px_d85_3 (by decide) ?_
  refine lv_istore (lv' := [(5, .int 0), (4, .int 0), (0, .ref h0), (1, .int a1x), (2, .int a2x), (3, .int a3x)]) hx hb px_d85_4 hl (by decide) rfl (fun ls hl => ?_)
  obtain ⟨k9, hw⟩ := hw
  exact S6 k9 a1x a2x a3x 0 0 iv g_elements g_signOf g_sorted H locs ls hP hD hS (lv_sub hl [2, 3, 4, 5, 1, 0] rfl) hw

/-! MatroidDeskModel.fits(IIII)Z -/
def w89_L111 (post : Int32 → (Nat → Int32) → (Nat → Int32) → (Nat → Int32) → Prop) (x1 : Int32) (x2 : Int32) (x3 : Int32) (x4 : Int32) (x5 : Int32) (x6 : Int32) (iv : Nat → Int32) (g_rankOf : Nat → Int32) (g_images : Nat → Int32) : Prop := narrow .boolean (.int x5) = .int x5 ∧ post x5 iv g_rankOf g_images
def w89_L103 (K9 : Int32 → Int32 → Int32 → Int32 → Int32 → Int32 → (Nat → Int32) → (Nat → Int32) → (Nat → Int32) → Prop) (post : Int32 → (Nat → Int32) → (Nat → Int32) → (Nat → Int32) → Prop) (x1 : Int32) (x2 : Int32) (x3 : Int32) (x4 : Int32) (x5 : Int32) (x6 : Int32) (x7 : Int32) (x8 : Int32) (y0 : Int32) (iv : Nat → Int32) (g_rankOf : Nat → Int32) (g_images : Nat → Int32) : Prop := ∀ z1 : Int32, z1 = x6 + 1 → K9 x1 x2 x3 x4 y0 z1 iv g_rankOf g_images
def w89_L64 (K9 : Int32 → Int32 → Int32 → Int32 → Int32 → Int32 → (Nat → Int32) → (Nat → Int32) → (Nat → Int32) → Prop) (K29 : Int32 → Int32 → Int32 → Int32 → Int32 → Int32 → Int32 → Int32 → (Nat → Int32) → (Nat → Int32) → (Nat → Int32) → Prop) (post : Int32 → (Nat → Int32) → (Nat → Int32) → (Nat → Int32) → Prop) (x1 : Int32) (x2 : Int32) (x3 : Int32) (x4 : Int32) (x5 : Int32) (x6 : Int32) (x7 : Int32) (x8 : Int32) (y0 : Int32) (iv : Nat → Int32) (g_rankOf : Nat → Int32) (g_images : Nat → Int32) : Prop := ∀ z2 : Int32, z2 = x8 + 1 → K29 x1 x2 x3 x4 x5 x6 y0 z2 iv g_rankOf g_images
def w89_L29 (K9 : Int32 → Int32 → Int32 → Int32 → Int32 → Int32 → (Nat → Int32) → (Nat → Int32) → (Nat → Int32) → Prop) (post : Int32 → (Nat → Int32) → (Nat → Int32) → (Nat → Int32) → Prop) : Nat → Int32 → Int32 → Int32 → Int32 → Int32 → Int32 → Int32 → Int32 → (Nat → Int32) → (Nat → Int32) → (Nat → Int32) → Prop
  | 0 => fun _ _ _ _ _ _ _ _ _ _ _ => False
  | k + 1 => fun x1 x2 x3 x4 x5 x6 x7 x8 iv g_rankOf g_images => (x4 < x8 → w70_wp (fun r78 v3 v4 => w70_wp (fun r84 v5 v6 => w70_wp (fun r92 v7 v8 => (¬ (r78 - r84) = r92 → w89_L103 K9 post x1 x2 x3 x4 x5 x6 x7 x8 0 v7 v8 g_images) ∧ ((r78 - r84) = r92 → w89_L103 K9 post x1 x2 x3 x4 x5 x6 x7 x8 1 v7 v8 g_images)) x2 x6 v5 v6) x1 x3 v3 v4) x1 (x7 ||| x3) iv g_rankOf) ∧ (¬ x4 < x8 → (¬ ((x6 >>> (x8 &&& 31)) &&& 1) = 1 → w89_L64 K9 (w89_L29 K9 post k) post x1 x2 x3 x4 x5 x6 x7 x8 x7 iv g_rankOf g_images) ∧ (((x6 >>> (x8 &&& 31)) &&& 1) = 1 → vp_in x8 12 ∧ (w89_L64 K9 (w89_L29 K9 post k) post x1 x2 x3 x4 x5 x6 x7 x8 (x7 ||| (1 <<< ((g_images (Int32.toNatClampNeg x8)) &&& 31))) iv g_rankOf g_images)))
def w89_L9 (post : Int32 → (Nat → Int32) → (Nat → Int32) → (Nat → Int32) → Prop) : Nat → Int32 → Int32 → Int32 → Int32 → Int32 → Int32 → (Nat → Int32) → (Nat → Int32) → (Nat → Int32) → Prop
  | 0 => fun _ _ _ _ _ _ _ _ _ => False
  | k + 1 => fun x1 x2 x3 x4 x5 x6 iv g_rankOf g_images => ((2 <<< (x4 &&& 31)) ≤ x6 → w89_L111 post x1 x2 x3 x4 x5 x6 iv g_rankOf g_images) ∧ (¬ (2 <<< (x4 &&& 31)) ≤ x6 → (x5 = 0 → w89_L111 post x1 x2 x3 x4 x5 x6 iv g_rankOf g_images) ∧ (¬ x5 = 0 → ∃ j29, w89_L29 (w89_L9 post k) post j29 x1 x2 x3 x4 x5 x6 0 0 iv g_rankOf g_images))
def w89_wp (post : Int32 → (Nat → Int32) → (Nat → Int32) → (Nat → Int32) → Prop) (a1x : Int32) (a2x : Int32) (a3x : Int32) (a4x : Int32) (iv : Nat → Int32) (g_rankOf : Nat → Int32) (g_images : Nat → Int32) : Prop := ∀ z9 : Int32, z9 = 1 <<< (a4x &&& 31) → ∃ j9, w89_L9 post j9 a1x a2x a3x a4x 1 z9 iv g_rankOf g_images
set_option maxHeartbeats 8000000 in
set_option maxRecDepth 100000 in
theorem w89_met (l : Launch) (dC : Nat → ClassId) (dI : Nat → Nat → Nat) (sz : Nat) (h0 : Nat) (rf : Nat → Nat) (c_rankOf : ClassId) (c_images : ClassId) (a1x : Int32) (a2x : Int32) (a3x : Int32) (a4x : Int32) (iv : Nat → Int32) (g_rankOf : Nat → Int32) (g_images : Nat → Int32) (post : Int32 → (Nat → Int32) → (Nat → Int32) → (Nat → Int32) → Prop) (hw : w89_wp post a1x a2x a3x a4x iv g_rankOf g_images) : Met l px_y89 px_s89 ({ frames := 1, cells := 0, slots := 0, locals := 22 }) (va_Pc [.ref h0, .int a1x, .int a2x, .int a3x, .int a4x] (fun U => U.heap.size = sz ∧ va_P (dC, dI) vwCl [(h0, .inr (8, px_mf rf iv)), (rf 25, .inl (c_rankOf, 106496, .inl g_rankOf)), (rf 34, .inl (c_images, 12, .inl g_images))] U.heap ∧ va_K (dC, dI) vwCl [(c_rankOf, .byte), (c_images, .int)] U ∧ va_D (fun _ => True) [(h0, .inr (8, px_mf rf iv)), (rf 25, .inl (c_rankOf, 106496, .inl g_rankOf)), (rf 34, .inl (c_images, 12, .inl g_images))] ∧ px_N U)) (va_Qi (fun (r : Int32) (u : (Nat → Int32) × (Nat → Int32) × (Nat → Int32)) => post r u.1 u.2.1 u.2.2) (fun (u : (Nat → Int32) × (Nat → Int32) × (Nat → Int32)) (t : State) => va_P (dC, dI) vwCl [(h0, .inr (8, px_mf rf u.1)), (rf 25, .inl (c_rankOf, 106496, .inl u.2.1)), (rf 34, .inl (c_images, 12, .inl u.2.2))] t.heap ∧ va_K (dC, dI) vwCl [(c_rankOf, .byte), (c_images, .int)] t ∧ va_D (va_A [(h0, .inr (8, px_mf rf iv)), (rf 25, .inl (c_rankOf, 106496, .inl g_rankOf)), (rf 34, .inl (c_images, 12, .inl g_images))] sz) [(h0, .inr (8, px_mf rf u.1)), (rf 25, .inl (c_rankOf, 106496, .inl u.2.1)), (rf 34, .inl (c_images, 12, .inl u.2.2))]) (va_A [(h0, .inr (8, px_mf rf iv)), (rf 25, .inl (c_rankOf, 106496, .inl g_rankOf)), (rf 34, .inl (c_images, 12, .inl g_images))] sz)) 0 0 (va_A [(h0, .inr (8, px_mf rf iv)), (rf 25, .inl (c_rankOf, 106496, .inl g_rankOf)), (rf 34, .inl (c_images, 12, .inl g_images))] sz) := by
  refine Met.ofW (cc := prog_15_method_44_code) (maxL := 9) (ret := (some .boolean)) (by decide) rfl ?_
  intro p e s m args below meth c s₁ B hml hv
  obtain ⟨rfl, hsz, hP, hK, hD0, hN⟩ := hv
  have hx := B.exec
  have hb := B.bytes
  have hr := B.returns
  have htw : ∀ w ∈ px_all, w.before _ s = true := fun w h => atoms_spec (ws := px_s89) B.pre w (List.mem_cons_of_mem _ h)
  have hown : s.vm.findClass "MatroidDeskModel" = some m.cls := findClass_of_methodNamed B.named
  have hlocks := B.notSynchronized
  subst hsz
  have hD := hD0.self (sz := s.heap.size)
  generalize hAe : va_A [(h0, .inr (8, px_mf rf iv)), (rf 25, .inl (c_rankOf, 106496, .inl g_rankOf)), (rf 34, .inl (c_images, 12, .inl g_images))] s.heap.size = A at hD ⊢
  have hA : ∀ q : Nat, s.heap.size ≤ q → A q := fun q h => by rw [← hAe]; exact Or.inr h
  have hS : va_S A s.heap s.heap [] := va_S.rf
  have hP : va_P (dC, dI) vwCl [(h0, .inr (8, px_mf rf iv)), (rf 25, .inl (c_rankOf, 106496, .inl g_rankOf)), (rf 34, .inl (c_images, 12, .inl g_images))] s.heap := hP
  have hl := lv_entry ([.ref h0, .int a1x, .int a2x, .int a3x, .int a4x]) (n := 9) (Nat.le_of_ble_eq_true rfl)
  rw [lg_entry_eq]
  generalize (lg_sl ([.ref h0, .int a1x, .int a2x, .int a3x, .int a4x]) ++ List.replicate (9 - (lg_sl ([.ref h0, .int a1x, .int a2x, .int a3x, .int a4x])).length) Slot.unset).toArray = ls at hl ⊢
  have hl : lv_has ls 9 [(0, .ref h0), (1, .int a1x), (2, .int a2x), (3, .int a3x), (4, .int a4x)] := hl
  generalize hQ : MQ _ _ _ _ _ _ _ = Q
  have S111 : ∀ (x1 : Int32) (x2 : Int32) (x3 : Int32) (x4 : Int32) (x5 : Int32) (x6 : Int32) (iv : Nat → Int32) (g_rankOf : Nat → Int32) (g_images : Nat → Int32) (H : Heap) (locs : List Loc) (ls : Array Slot), va_P (dC, dI) vwCl [(h0, .inr (8, px_mf rf iv)), (rf 25, .inl (c_rankOf, 106496, .inl g_rankOf)), (rf 34, .inl (c_images, 12, .inl g_images))] H → va_D A [(h0, .inr (8, px_mf rf iv)), (rf 25, .inl (c_rankOf, 106496, .inl g_rankOf)), (rf 34, .inl (c_images, 12, .inl g_images))] → va_S A s.heap H locs → lv_has ls 9 [(0, .ref h0), (1, .int x1), (2, .int x2), (3, .int x3), (4, .int x4), (5, .int x5), (6, .int x6)] → w89_L111 post x1 x2 x3 x4 x5 x6 iv g_rankOf g_images → W p l e (headSpec px_s89 ({ frames := 1, cells := 0, slots := 0, locals := 22 })).room s m ([.ref h0, .int a1x, .int a2x, .int a3x, .int a4x]).toArray below meth c H locs 0 0 Q (F0 m 111 ls []) := by
    intro x1 x2 x3 x4 x5 x6 iv g_rankOf g_images H locs ls hP hD hS hl hw
    unfold w89_L111 at hw
    refine lv_iload hx hb px_d89_111 (lv_at hl 5 rfl) ?_
    obtain ⟨hz9, hw⟩ := hw
    rw [← hQ]
    exact W.zret (v := x5) hx hb hr hz9 (fun t ht hW => ⟨⟨x5, (iv, g_rankOf, g_images), rfl, hw, by rw [ht]; exact hP, va_K.moved hW.alike hK, hD⟩, hS.F ht⟩) hS.2.2 px_d89_113
  have S9 : ∀ (k9 : Nat) (x1 : Int32) (x2 : Int32) (x3 : Int32) (x4 : Int32) (x5 : Int32) (x6 : Int32) (iv : Nat → Int32) (g_rankOf : Nat → Int32) (g_images : Nat → Int32) (H : Heap) (locs : List Loc) (ls : Array Slot), va_P (dC, dI) vwCl [(h0, .inr (8, px_mf rf iv)), (rf 25, .inl (c_rankOf, 106496, .inl g_rankOf)), (rf 34, .inl (c_images, 12, .inl g_images))] H → va_D A [(h0, .inr (8, px_mf rf iv)), (rf 25, .inl (c_rankOf, 106496, .inl g_rankOf)), (rf 34, .inl (c_images, 12, .inl g_images))] → va_S A s.heap H locs → lv_has ls 9 [(0, .ref h0), (1, .int x1), (2, .int x2), (3, .int x3), (4, .int x4), (5, .int x5), (6, .int x6)] → w89_L9 post k9 x1 x2 x3 x4 x5 x6 iv g_rankOf g_images → W p l e (headSpec px_s89 ({ frames := 1, cells := 0, slots := 0, locals := 22 })).room s m ([.ref h0, .int a1x, .int a2x, .int a3x, .int a4x]).toArray below meth c H locs 0 0 Q (F0 m 9 ls []) := by
    intro k9
    induction k9 with
    | zero => intro x1 x2 x3 x4 x5 x6 iv g_rankOf g_images H locs ls hP hD hS hl hw; exact False.elim hw
    | succ k9 ih9 =>
      have S103 : ∀ (x1 : Int32) (x2 : Int32) (x3 : Int32) (x4 : Int32) (x5 : Int32) (x6 : Int32) (x7 : Int32) (x8 : Int32) (y0 : Int32) (iv : Nat → Int32) (g_rankOf : Nat → Int32) (g_images : Nat → Int32) (H : Heap) (locs : List Loc) (ls : Array Slot), va_P (dC, dI) vwCl [(h0, .inr (8, px_mf rf iv)), (rf 25, .inl (c_rankOf, 106496, .inl g_rankOf)), (rf 34, .inl (c_images, 12, .inl g_images))] H → va_D A [(h0, .inr (8, px_mf rf iv)), (rf 25, .inl (c_rankOf, 106496, .inl g_rankOf)), (rf 34, .inl (c_images, 12, .inl g_images))] → va_S A s.heap H locs → lv_has ls 9 [(0, .ref h0), (1, .int x1), (2, .int x2), (3, .int x3), (4, .int x4), (5, .int x5), (6, .int x6), (7, .int x7), (8, .int x8)] → w89_L103 (w89_L9 post k9) post x1 x2 x3 x4 x5 x6 x7 x8 y0 iv g_rankOf g_images → W p l e (headSpec px_s89 ({ frames := 1, cells := 0, slots := 0, locals := 22 })).room s m ([.ref h0, .int a1x, .int a2x, .int a3x, .int a4x]).toArray below meth c H locs 0 0 Q (F0 m 103 ls [.int y0]) := by
        intro x1 x2 x3 x4 x5 x6 x7 x8 y0 iv g_rankOf g_images H locs ls hP hD hS hl hw
        unfold w89_L103 at hw
        refine lv_istore (lv' := [(5, .int y0), (0, .ref h0), (1, .int x1), (2, .int x2), (3, .int x3), (4, .int x4), (6, .int x6), (7, .int x7), (8, .int x8)]) hx hb px_d89_103 hl (by decide) rfl (fun ls hl => ?_)
        obtain ⟨z1, ez1⟩ : ∃ y : Int32, y = x6 + 1 := ⟨_, rfl⟩
        have hw := hw z1 ez1
        refine lv_iinc (v := z1) (lv' := [(6, .int z1), (5, .int y0), (0, .ref h0), (1, .int x1), (2, .int x2), (3, .int x3), (4, .int x4), (7, .int x7), (8, .int x8)]) hx hb px_d89_105 hl (k := 6) rfl (by rw [ez1]; rfl) (by decide) rfl (fun ls hl => ?_)
        refine lv_goto (tgt := 9) hx hb px_d89_108 (by decide) ?_
        exact ih9 x1 x2 x3 x4 y0 z1 iv g_rankOf g_images H locs ls hP hD hS (lv_sub hl [2, 3, 4, 5, 6, 1, 0] rfl) hw
      have S29 : ∀ (k29 : Nat) (x1 : Int32) (x2 : Int32) (x3 : Int32) (x4 : Int32) (x5 : Int32) (x6 : Int32) (x7 : Int32) (x8 : Int32) (iv : Nat → Int32) (g_rankOf : Nat → Int32) (g_images : Nat → Int32) (H : Heap) (locs : List Loc) (ls : Array Slot), va_P (dC, dI) vwCl [(h0, .inr (8, px_mf rf iv)), (rf 25, .inl (c_rankOf, 106496, .inl g_rankOf)), (rf 34, .inl (c_images, 12, .inl g_images))] H → va_D A [(h0, .inr (8, px_mf rf iv)), (rf 25, .inl (c_rankOf, 106496, .inl g_rankOf)), (rf 34, .inl (c_images, 12, .inl g_images))] → va_S A s.heap H locs → lv_has ls 9 [(0, .ref h0), (1, .int x1), (2, .int x2), (3, .int x3), (4, .int x4), (5, .int x5), (6, .int x6), (7, .int x7), (8, .int x8)] → w89_L29 (w89_L9 post k9) post k29 x1 x2 x3 x4 x5 x6 x7 x8 iv g_rankOf g_images → W p l e (headSpec px_s89 ({ frames := 1, cells := 0, slots := 0, locals := 22 })).room s m ([.ref h0, .int a1x, .int a2x, .int a3x, .int a4x]).toArray below meth c H locs 0 0 Q (F0 m 29 ls []) := by
        intro k29
        induction k29 with
        | zero => intro x1 x2 x3 x4 x5 x6 x7 x8 iv g_rankOf g_images H locs ls hP hD hS hl hw; exact False.elim hw
        | succ k29 ih29 =>
          have S64 : ∀ (x1 : Int32) (x2 : Int32) (x3 : Int32) (x4 : Int32) (x5 : Int32) (x6 : Int32) (x7 : Int32) (x8 : Int32) (y0 : Int32) (iv : Nat → Int32) (g_rankOf : Nat → Int32) (g_images : Nat → Int32) (H : Heap) (locs : List Loc) (ls : Array Slot), va_P (dC, dI) vwCl [(h0, .inr (8, px_mf rf iv)), (rf 25, .inl (c_rankOf, 106496, .inl g_rankOf)), (rf 34, .inl (c_images, 12, .inl g_images))] H → va_D A [(h0, .inr (8, px_mf rf iv)), (rf 25, .inl (c_rankOf, 106496, .inl g_rankOf)), (rf 34, .inl (c_images, 12, .inl g_images))] → va_S A s.heap H locs → lv_has ls 9 [(0, .ref h0), (1, .int x1), (2, .int x2), (3, .int x3), (4, .int x4), (5, .int x5), (6, .int x6), (7, .int x7), (8, .int x8)] → w89_L64 (w89_L9 post k9) (w89_L29 (w89_L9 post k9) post k29) post x1 x2 x3 x4 x5 x6 x7 x8 y0 iv g_rankOf g_images → W p l e (headSpec px_s89 ({ frames := 1, cells := 0, slots := 0, locals := 22 })).room s m ([.ref h0, .int a1x, .int a2x, .int a3x, .int a4x]).toArray below meth c H locs 0 0 Q (F0 m 64 ls [.int y0]) := by
            intro x1 x2 x3 x4 x5 x6 x7 x8 y0 iv g_rankOf g_images H locs ls hP hD hS hl hw
            unfold w89_L64 at hw
            refine lv_istore (lv' := [(7, .int y0), (0, .ref h0), (1, .int x1), (2, .int x2), (3, .int x3), (4, .int x4), (5, .int x5), (6, .int x6), (8, .int x8)]) hx hb px_d89_64 hl (by decide) rfl (fun ls hl => ?_)
            obtain ⟨z2, ez2⟩ : ∃ y : Int32, y = x8 + 1 := ⟨_, rfl⟩
            have hw := hw z2 ez2
            refine lv_iinc (v := z2) (lv' := [(8, .int z2), (7, .int y0), (0, .ref h0), (1, .int x1), (2, .int x2), (3, .int x3), (4, .int x4), (5, .int x5), (6, .int x6)]) hx hb px_d89_66 hl (k := 8) rfl (by rw [ez2]; rfl) (by decide) rfl (fun ls hl => ?_)
            refine lv_goto (tgt := 29) hx hb px_d89_69 (by decide) ?_
            exact ih29 x1 x2 x3 x4 x5 x6 y0 z2 iv g_rankOf g_images H locs ls hP hD hS (lv_sub hl [2, 3, 4, 5, 6, 7, 8, 1, 0] rfl) hw
          intro x1 x2 x3 x4 x5 x6 x7 x8 iv g_rankOf g_images H locs ls hP hD hS hl hw
          unfold w89_L29 at hw
          refine lv_iload hx hb px_d89_29 (lv_at hl 8 rfl) ?_
          refine lv_iload hx hb px_d89_31 (lv_at hl 4 rfl) ?_
          refine lv_icmp_gt (tgt := 72) hx hb px_d89_33 (by decide) (fun c33 => ?_) (fun c33 => ?_)
          · have hw := hw.1 c33
            refine lv_aload_n hx hb px_d89_72 rfl (lv_at hl 0 rfl) ?_
            refine lv_iload_n hx hb px_d89_73 rfl (lv_at hl 1 rfl) ?_
            refine lv_iload hx hb px_d89_74 (lv_at hl 7 rfl) ?_
            refine lv_iload_n hx hb px_d89_76 rfl (lv_at hl 3 rfl) ?_
            refine lv_ior hx hb px_d89_77 ?_
            have hPc := hP.sub (ws' := [(h0, .inr (8, px_mf rf iv)), (rf 25, .inl (c_rankOf, 106496, .inl g_rankOf))]) [0, 1] rfl
            have hDc := hD.sub (ws' := [(h0, .inr (8, px_mf rf iv)), (rf 25, .inl (c_rankOf, 106496, .inl g_rankOf))]) [0, 1] (by decide) rfl
            have hKc := hK.sub (tys' := [(c_rankOf, .byte)]) [0] rfl
            have hFc := va_free (wc := [(h0, .inr (8, px_mf rf iv)), (rf 25, .inl (c_rankOf, 106496, .inl g_rankOf))]) hD hS hA [0, 1] rfl
            refine va_calli (va_runV (As := [.int x1, .int (x7 ||| x3)]) (rest := []) ⟨hx, hb, hml, hown, htw⟩ (w70_met l dC dI H.size h0 rf c_rankOf x1 (x7 ||| x3) iv g_rankOf _ hw) (cwV 2 htw (px_gv px_w561 px_w553 px_w554 px_w94 px_g70) rfl rfl rfl (by decide +kernel) ⟨Nat.le_of_ble_eq_true rfl, Nat.le_of_ble_eq_true rfl⟩) ⟨fun a U g mk q => by obtain ⟨q0, q1, qP, qK, qD, qN⟩ := q; exact ⟨q0, q1, qP, va_K.moved (u := U) (U := U.calling g mk a) (Vm.Alike.refl U.vm) qK, qD, qN.same rfl⟩, va_recv hK hP (ci := 8) (q0 := 0) rfl rfl, fun U hU hW => ⟨rfl, by rw [hU], by rw [hU]; exact hPc, va_K.moved hW.alike hKc, hDc.weaken (fun _ _ _ _ => trivial), hN.warm hW⟩⟩ rfl rfl hl.1 rfl (lv_room (Nat.le_of_ble_eq_true rfl)) px_d89_78 ⟨(Nat.le_of_ble_eq_true rfl), (Nat.le_of_ble_eq_true rfl)⟩) hS (fun q _ h => hFc q h) hFc (fun r78 u t H1 locs ht hvm hw hB hz1 hk1 hS => ?_)
            obtain ⟨v3, v4⟩ := u
            obtain ⟨hP1, hK1, hD1⟩ := hB
            rw [ht] at hP1
            have hK1 := va_K.moved hvm.symm hK1
            obtain ⟨hP, hD⟩ := va_join (wr := [(rf 34, .inl (c_images, 12, .inl g_images))]) (w1 := [(h0, .inr (8, px_mf rf v3)), (rf 25, .inl (c_rankOf, 106496, .inl v4))]) hP hD [0, 1] [2] rfl rfl (by decide) (by decide) hk1 hFc hP1 hD1
            generalize H1 = H at hP hS ⊢
            have hP : va_P (dC, dI) vwCl [(rf 34, .inl (c_images, 12, .inl g_images)), (h0, .inr (8, px_mf rf v3)), (rf 25, .inl (c_rankOf, 106496, .inl v4))] H := hP
            have hD : va_D A [(rf 34, .inl (c_images, 12, .inl g_images)), (h0, .inr (8, px_mf rf v3)), (rf 25, .inl (c_rankOf, 106496, .inl v4))] := hD
            have hP := hP.sub (ws' := [(h0, .inr (8, px_mf rf v3)), (rf 25, .inl (c_rankOf, 106496, .inl v4)), (rf 34, .inl (c_images, 12, .inl g_images))]) [1, 2, 0] rfl
            have hD := hD.sub (ws' := [(h0, .inr (8, px_mf rf v3)), (rf 25, .inl (c_rankOf, 106496, .inl v4)), (rf 34, .inl (c_images, 12, .inl g_images))]) [1, 2, 0] (by decide) rfl
            refine lv_aload_n hx hb px_d89_81 rfl (lv_at hl 0 rfl) ?_
            refine lv_iload_n hx hb px_d89_82 rfl (lv_at hl 1 rfl) ?_
            refine lv_iload_n hx hb px_d89_83 rfl (lv_at hl 3 rfl) ?_
            have hPc := hP.sub (ws' := [(h0, .inr (8, px_mf rf v3)), (rf 25, .inl (c_rankOf, 106496, .inl v4))]) [0, 1] rfl
            have hDc := hD.sub (ws' := [(h0, .inr (8, px_mf rf v3)), (rf 25, .inl (c_rankOf, 106496, .inl v4))]) [0, 1] (by decide) rfl
            have hKc := hK.sub (tys' := [(c_rankOf, .byte)]) [0] rfl
            have hFc := va_free (wc := [(h0, .inr (8, px_mf rf v3)), (rf 25, .inl (c_rankOf, 106496, .inl v4))]) hD hS hA [0, 1] rfl
            refine va_calli (va_runV (As := [.int x1, .int x3]) (rest := [.int r78]) ⟨hx, hb, hml, hown, htw⟩ (w70_met l dC dI H.size h0 rf c_rankOf x1 x3 v3 v4 _ hw) (cwV 2 htw (px_gv px_w561 px_w553 px_w554 px_w94 px_g70) rfl rfl rfl (by decide +kernel) ⟨Nat.le_of_ble_eq_true rfl, Nat.le_of_ble_eq_true rfl⟩) ⟨fun a U g mk q => by obtain ⟨q0, q1, qP, qK, qD, qN⟩ := q; exact ⟨q0, q1, qP, va_K.moved (u := U) (U := U.calling g mk a) (Vm.Alike.refl U.vm) qK, qD, qN.same rfl⟩, va_recv hK hP (ci := 8) (q0 := 0) rfl rfl, fun U hU hW => ⟨rfl, by rw [hU], by rw [hU]; exact hPc, va_K.moved hW.alike hKc, hDc.weaken (fun _ _ _ _ => trivial), hN.warm hW⟩⟩ rfl rfl hl.1 rfl (lv_room (Nat.le_of_ble_eq_true rfl)) px_d89_84 ⟨(Nat.le_of_ble_eq_true rfl), (Nat.le_of_ble_eq_true rfl)⟩) hS (fun q _ h => hFc q h) hFc (fun r84 u t H1 locs ht hvm hw hB hz1 hk1 hS => ?_)
            obtain ⟨v5, v6⟩ := u
            obtain ⟨hP1, hK1, hD1⟩ := hB
            rw [ht] at hP1
            have hK1 := va_K.moved hvm.symm hK1
            obtain ⟨hP, hD⟩ := va_join (wr := [(rf 34, .inl (c_images, 12, .inl g_images))]) (w1 := [(h0, .inr (8, px_mf rf v5)), (rf 25, .inl (c_rankOf, 106496, .inl v6))]) hP hD [0, 1] [2] rfl rfl (by decide) (by decide) hk1 hFc hP1 hD1
            generalize H1 = H at hP hS ⊢
            have hP : va_P (dC, dI) vwCl [(rf 34, .inl (c_images, 12, .inl g_images)), (h0, .inr (8, px_mf rf v5)), (rf 25, .inl (c_rankOf, 106496, .inl v6))] H := hP
            have hD : va_D A [(rf 34, .inl (c_images, 12, .inl g_images)), (h0, .inr (8, px_mf rf v5)), (rf 25, .inl (c_rankOf, 106496, .inl v6))] := hD
            have hP := hP.sub (ws' := [(h0, .inr (8, px_mf rf v5)), (rf 25, .inl (c_rankOf, 106496, .inl v6)), (rf 34, .inl (c_images, 12, .inl g_images))]) [1, 2, 0] rfl
            have hD := hD.sub (ws' := [(h0, .inr (8, px_mf rf v5)), (rf 25, .inl (c_rankOf, 106496, .inl v6)), (rf 34, .inl (c_images, 12, .inl g_images))]) [1, 2, 0] (by decide) rfl
            refine lv_isub hx hb px_d89_87 ?_
            refine lv_aload_n hx hb px_d89_88 rfl (lv_at hl 0 rfl) ?_
            refine lv_iload_n hx hb px_d89_89 rfl (lv_at hl 2 rfl) ?_
            refine lv_iload hx hb px_d89_90 (lv_at hl 6 rfl) ?_
            have hPc := hP.sub (ws' := [(h0, .inr (8, px_mf rf v5)), (rf 25, .inl (c_rankOf, 106496, .inl v6))]) [0, 1] rfl
            have hDc := hD.sub (ws' := [(h0, .inr (8, px_mf rf v5)), (rf 25, .inl (c_rankOf, 106496, .inl v6))]) [0, 1] (by decide) rfl
            have hKc := hK.sub (tys' := [(c_rankOf, .byte)]) [0] rfl
            have hFc := va_free (wc := [(h0, .inr (8, px_mf rf v5)), (rf 25, .inl (c_rankOf, 106496, .inl v6))]) hD hS hA [0, 1] rfl
            refine va_calli (va_runV (As := [.int x2, .int x6]) (rest := [.int (r78 - r84)]) ⟨hx, hb, hml, hown, htw⟩ (w70_met l dC dI H.size h0 rf c_rankOf x2 x6 v5 v6 _ hw) (cwV 2 htw (px_gv px_w561 px_w553 px_w554 px_w94 px_g70) rfl rfl rfl (by decide +kernel) ⟨Nat.le_of_ble_eq_true rfl, Nat.le_of_ble_eq_true rfl⟩) ⟨fun a U g mk q => by obtain ⟨q0, q1, qP, qK, qD, qN⟩ := q; exact ⟨q0, q1, qP, va_K.moved (u := U) (U := U.calling g mk a) (Vm.Alike.refl U.vm) qK, qD, qN.same rfl⟩, va_recv hK hP (ci := 8) (q0 := 0) rfl rfl, fun U hU hW => ⟨rfl, by rw [hU], by rw [hU]; exact hPc, va_K.moved hW.alike hKc, hDc.weaken (fun _ _ _ _ => trivial), hN.warm hW⟩⟩ rfl rfl hl.1 rfl (lv_room (Nat.le_of_ble_eq_true rfl)) px_d89_92 ⟨(Nat.le_of_ble_eq_true rfl), (Nat.le_of_ble_eq_true rfl)⟩) hS (fun q _ h => hFc q h) hFc (fun r92 u t H1 locs ht hvm hw hB hz1 hk1 hS => ?_)
            obtain ⟨v7, v8⟩ := u
            obtain ⟨hP1, hK1, hD1⟩ := hB
            rw [ht] at hP1
            have hK1 := va_K.moved hvm.symm hK1
            obtain ⟨hP, hD⟩ := va_join (wr := [(rf 34, .inl (c_images, 12, .inl g_images))]) (w1 := [(h0, .inr (8, px_mf rf v7)), (rf 25, .inl (c_rankOf, 106496, .inl v8))]) hP hD [0, 1] [2] rfl rfl (by decide) (by decide) hk1 hFc hP1 hD1
            generalize H1 = H at hP hS ⊢
            have hP : va_P (dC, dI) vwCl [(rf 34, .inl (c_images, 12, .inl g_images)), (h0, .inr (8, px_mf rf v7)), (rf 25, .inl (c_rankOf, 106496, .inl v8))] H := hP
            have hD : va_D A [(rf 34, .inl (c_images, 12, .inl g_images)), (h0, .inr (8, px_mf rf v7)), (rf 25, .inl (c_rankOf, 106496, .inl v8))] := hD
            have hP := hP.sub (ws' := [(h0, .inr (8, px_mf rf v7)), (rf 25, .inl (c_rankOf, 106496, .inl v8)), (rf 34, .inl (c_images, 12, .inl g_images))]) [1, 2, 0] rfl
            have hD := hD.sub (ws' := [(h0, .inr (8, px_mf rf v7)), (rf 25, .inl (c_rankOf, 106496, .inl v8)), (rf 34, .inl (c_images, 12, .inl g_images))]) [1, 2, 0] (by decide) rfl
            refine lv_icmp_ne (tgt := 102) hx hb px_d89_95 (by decide) (fun c95 => ?_) (fun c95 => ?_)
            · have hw := hw.1 c95
              refine lv_iconst (v := 0) hx hb px_d89_102 (by decide) ?_
              exact S103 x1 x2 x3 x4 x5 x6 x7 x8 0 v7 v8 g_images H locs ls hP hD hS (lv_sub hl [0, 1, 2, 3, 4, 5, 6, 7, 8] rfl) hw
            · have hw := hw.2 c95
              refine lv_iconst (v := 1) hx hb px_d89_98 (by decide) ?_
              refine lv_goto (tgt := 103) hx hb px_d89_99 (by decide) ?_
              exact S103 x1 x2 x3 x4 x5 x6 x7 x8 1 v7 v8 g_images H locs ls hP hD hS (lv_sub hl [0, 1, 2, 3, 4, 5, 6, 7, 8] rfl) hw
          · have hw := hw.2 c33
            refine lv_iload hx hb px_d89_36 (lv_at hl 6 rfl) ?_
            refine lv_iload hx hb px_d89_38 (lv_at hl 8 rfl) ?_
            refine lv_ishr hx hb px_d89_40 ?_
            refine lv_iconst (v := 1) hx hb px_d89_41 (by decide) ?_
            refine lv_iand hx hb px_d89_42 ?_
            refine lv_iconst (v := 1) hx hb px_d89_43 (by decide) ?_
            refine lv_icmp_ne (tgt := 62) hx hb px_d89_44 (by decide) (fun c44 => ?_) (fun c44 => ?_)
            · have hw := hw.1 c44
              refine lv_iload hx hb px_d89_62 (lv_at hl 7 rfl) ?_
              exact S64 x1 x2 x3 x4 x5 x6 x7 x8 x7 iv g_rankOf g_images H locs ls hP hD hS (lv_sub hl [0, 1, 2, 3, 4, 5, 6, 7, 8] rfl) hw
            · have hw := hw.2 c44
              refine lv_iload hx hb px_d89_47 (lv_at hl 7 rfl) ?_
              refine lv_iconst (v := 1) hx hb px_d89_49 (by decide) ?_
              refine lv_aload_n hx hb px_d89_50 rfl (lv_at hl 0 rfl) ?_
              refine va_get (D := (dC, dI)) (ci := 8) (v := .ref (rf 34)) (C := "MatroidDeskModel") (T := px_T8) (N := 53) hx hb htw px_in8 hown hK hP 0 rfl rfl 34 (by decide) (htw _ px_w517) (fun _ h9 => h9) rfl px_d89_51 ?_
              refine lv_iload hx hb px_d89_54 (lv_at hl 8 rfl) ?_
              obtain ⟨hi56, hw⟩ := hw
              refine va_iald hx hb hK hP 2 1 rfl rfl hi56 px_d89_56 ?_
              refine lv_ishl hx hb px_d89_57 ?_
              refine lv_ior hx hb px_d89_58 ?_
              refine lv_goto (tgt := 64) hx hb px_d89_59 (by decide) ?_
              exact S64 x1 x2 x3 x4 x5 x6 x7 x8 (x7 ||| (1 <<< ((g_images (Int32.toNatClampNeg x8)) &&& 31))) iv g_rankOf g_images H locs ls hP hD hS (lv_sub hl [0, 1, 2, 3, 4, 5, 6, 7, 8] rfl) hw
      intro x1 x2 x3 x4 x5 x6 iv g_rankOf g_images H locs ls hP hD hS hl hw
      unfold w89_L9 at hw
      refine lv_iload hx hb px_d89_9 (lv_at hl 6 rfl) ?_
      refine lv_iconst (v := 2) hx hb px_d89_11 (by decide) ?_
      refine lv_iload hx hb px_d89_12 (lv_at hl 4 rfl) ?_
      refine lv_ishl hx hb px_d89_14 ?_
      refine lv_icmp_ge (tgt := 111) hx hb px_d89_15 (by decide) (fun c15 => ?_) (fun c15 => ?_)
      · have hw := hw.1 c15
        exact S111 x1 x2 x3 x4 x5 x6 iv g_rankOf g_images H locs ls hP hD hS (lv_sub hl [0, 1, 2, 3, 4, 5, 6] rfl) hw
      · have hw := hw.2 c15
        refine lv_iload hx hb px_d89_18 (lv_at hl 5 rfl) ?_
        refine lv_if_eq (tgt := 111) hx hb px_d89_20 (by decide) (fun c20 => ?_) (fun c20 => ?_)
        · have hw := hw.1 c20
          exact S111 x1 x2 x3 x4 x5 x6 iv g_rankOf g_images H locs ls hP hD hS (lv_sub hl [0, 1, 2, 3, 4, 5, 6] rfl) hw
        · have hw := hw.2 c20
          refine lv_iconst (v := 0) hx hb px_d89_23 (by decide) ?_
          refine lv_istore (lv' := [(7, .int 0), (0, .ref h0), (1, .int x1), (2, .int x2), (3, .int x3), (4, .int x4), (5, .int x5), (6, .int x6)]) hx hb px_d89_24 hl (by decide) rfl (fun ls hl => ?_)
          refine lv_iconst (v := 0) hx hb px_d89_26 (by decide) ?_
          refine lv_istore (lv' := [(8, .int 0), (7, .int 0), (0, .ref h0), (1, .int x1), (2, .int x2), (3, .int x3), (4, .int x4), (5, .int x5), (6, .int x6)]) hx hb px_d89_27 hl (by decide) rfl (fun ls hl => ?_)
          obtain ⟨k9, hw⟩ := hw
          exact S29 k9 x1 x2 x3 x4 x5 x6 0 0 iv g_rankOf g_images H locs ls hP hD hS (lv_sub hl [2, 3, 4, 5, 6, 7, 8, 1, 0] rfl) hw
  unfold w89_wp at hw
  have hS0 := hS
  obtain ⟨H, hH9⟩ : ∃ z, z = s.heap := ⟨_, rfl⟩
  have hP : va_P (dC, dI) vwCl [(h0, .inr (8, px_mf rf iv)), (rf 25, .inl (c_rankOf, 106496, .inl g_rankOf)), (rf 34, .inl (c_images, 12, .inl g_images))] H := by rw [hH9]; exact hP
  obtain ⟨locs, hlo9⟩ : ∃ z : List Loc, z = [] := ⟨_, rfl⟩
  have hS : va_S A s.heap H locs := by rw [hH9, hlo9]; exact hS
  suffices hG : W p l e (headSpec px_s89 ({ frames := 1, cells := 0, slots := 0, locals := 22 })).room s m ([.ref h0, .int a1x, .int a2x, .int a3x, .int a4x]).toArray below meth c H locs 0 0 Q (F0 m 0 ls []) by rw [hH9, hlo9] at hG; exact hG
  refine lv_iconst (v := 1) hx hb px_d89_0 (by decide) ?_
  refine lv_istore (lv' := [(5, .int 1), (0, .ref h0), (1, .int a1x), (2, .int a2x), (3, .int a3x), (4, .int a4x)]) hx hb px_d89_1 hl (by decide) rfl (fun ls hl => ?_)
  refine lv_iconst (v := 1) hx hb px_d89_3 (by decide) ?_
  refine lv_iload hx hb px_d89_4 (lv_at hl 5 rfl) ?_
  refine lv_ishl hx hb px_d89_6 ?_
  refine lv_topi (fun z9 ez9 => ?_)
  have hw := hw z9 ez9
  refine lv_istore (lv' := [(6, .int z9), (5, .int 1), (0, .ref h0), (1, .int a1x), (2, .int a2x), (3, .int a3x), (4, .int a4x)]) hx hb px_d89_7 hl (by decide) rfl (fun ls hl => ?_)
  obtain ⟨k9, hw⟩ := hw
  exact S9 k9 a1x a2x a3x a4x 1 z9 iv g_rankOf g_images H locs ls hP hD hS (lv_sub hl [2, 3, 4, 5, 6, 1, 0] rfl) hw

/-! MatroidDeskModel.pivotOf(II)I -/
def w90_L63 (post : Int32 → (Nat → Int32) → (Nat → Int32) → (Nat → Int32) → (Nat → Int32) → Prop) (x1 : Int32) (x2 : Int32) (x3 : Int32) (iv : Nat → Int32) (g_fields : Nat → Int32) (g_kept : Nat → Int32) (g_keptSmall : Nat → Int32) : Prop := post x3 iv g_fields g_kept g_keptSmall
def w90_L57 (K2 : Int32 → Int32 → Int32 → (Nat → Int32) → (Nat → Int32) → (Nat → Int32) → (Nat → Int32) → Prop) (post : Int32 → (Nat → Int32) → (Nat → Int32) → (Nat → Int32) → (Nat → Int32) → Prop) (x1 : Int32) (x2 : Int32) (x3 : Int32) (iv : Nat → Int32) (g_fields : Nat → Int32) (g_kept : Nat → Int32) (g_keptSmall : Nat → Int32) : Prop := ∀ z1 : Int32, z1 = x3 + 1 → K2 x1 x2 z1 iv g_fields g_kept g_keptSmall
def w90_L2 (post : Int32 → (Nat → Int32) → (Nat → Int32) → (Nat → Int32) → (Nat → Int32) → Prop) : Nat → Int32 → Int32 → Int32 → (Nat → Int32) → (Nat → Int32) → (Nat → Int32) → (Nat → Int32) → Prop
  | 0 => fun _ _ _ _ _ _ _ => False
  | k + 1 => fun x1 x2 x3 iv g_fields g_kept g_keptSmall => vp_in x1 26 ∧ ((¬ (g_fields (Int32.toNatClampNeg x1)) = 0 → vp_in (((144 * x1) + (12 * x2)) + x3) 3744 ∧ ((¬ (g_keptSmall (Int32.toNatClampNeg (((144 * x1) + (12 * x2)) + x3))) = 0 → w90_L63 post x1 x2 x3 iv g_fields g_kept g_keptSmall) ∧ ((g_keptSmall (Int32.toNatClampNeg (((144 * x1) + (12 * x2)) + x3))) = 0 → w90_L57 (w90_L2 post k) post x1 x2 x3 iv g_fields g_kept g_keptSmall))) ∧ ((g_fields (Int32.toNatClampNeg x1)) = 0 → vp_in (24 * (((144 * x1) + (12 * x2)) + x3)) 89856 ∧ ((¬ (g_kept (Int32.toNatClampNeg (24 * (((144 * x1) + (12 * x2)) + x3)))) = 0 → w90_L63 post x1 x2 x3 iv g_fields g_kept g_keptSmall) ∧ ((g_kept (Int32.toNatClampNeg (24 * (((144 * x1) + (12 * x2)) + x3)))) = 0 → w90_L57 (w90_L2 post k) post x1 x2 x3 iv g_fields g_kept g_keptSmall))))
def w90_wp (post : Int32 → (Nat → Int32) → (Nat → Int32) → (Nat → Int32) → (Nat → Int32) → Prop) (a1x : Int32) (a2x : Int32) (iv : Nat → Int32) (g_fields : Nat → Int32) (g_kept : Nat → Int32) (g_keptSmall : Nat → Int32) : Prop := ∃ j2, w90_L2 post j2 a1x a2x 0 iv g_fields g_kept g_keptSmall
set_option maxHeartbeats 8000000 in
set_option maxRecDepth 100000 in
theorem w90_met (l : Launch) (dC : Nat → ClassId) (dI : Nat → Nat → Nat) (sz : Nat) (h0 : Nat) (rf : Nat → Nat) (c_fields : ClassId) (c_kept : ClassId) (c_keptSmall : ClassId) (a1x : Int32) (a2x : Int32) (iv : Nat → Int32) (g_fields : Nat → Int32) (g_kept : Nat → Int32) (g_keptSmall : Nat → Int32) (post : Int32 → (Nat → Int32) → (Nat → Int32) → (Nat → Int32) → (Nat → Int32) → Prop) (hw : w90_wp post a1x a2x iv g_fields g_kept g_keptSmall) : Met l px_y90 px_s90 ({ frames := 0, cells := 0, slots := 0, locals := 0 }) (va_Pc [.ref h0, .int a1x, .int a2x] (fun U => U.heap.size = sz ∧ va_P (dC, dI) vwCl [(h0, .inr (8, px_mf rf iv)), (rf 20, .inl (c_fields, 26, .inl g_fields)), (rf 22, .inl (c_kept, 89856, .inl g_kept)), (rf 23, .inl (c_keptSmall, 3744, .inl g_keptSmall))] U.heap ∧ va_K (dC, dI) vwCl [(c_fields, .int), (c_kept, .int), (c_keptSmall, .int)] U ∧ va_D (fun _ => True) [(h0, .inr (8, px_mf rf iv)), (rf 20, .inl (c_fields, 26, .inl g_fields)), (rf 22, .inl (c_kept, 89856, .inl g_kept)), (rf 23, .inl (c_keptSmall, 3744, .inl g_keptSmall))] ∧ px_N U)) (va_Qi (fun (r : Int32) (u : (Nat → Int32) × (Nat → Int32) × (Nat → Int32) × (Nat → Int32)) => post r u.1 u.2.1 u.2.2.1 u.2.2.2) (fun (u : (Nat → Int32) × (Nat → Int32) × (Nat → Int32) × (Nat → Int32)) (t : State) => va_P (dC, dI) vwCl [(h0, .inr (8, px_mf rf u.1)), (rf 20, .inl (c_fields, 26, .inl u.2.1)), (rf 22, .inl (c_kept, 89856, .inl u.2.2.1)), (rf 23, .inl (c_keptSmall, 3744, .inl u.2.2.2))] t.heap ∧ va_K (dC, dI) vwCl [(c_fields, .int), (c_kept, .int), (c_keptSmall, .int)] t ∧ va_D (va_A [(h0, .inr (8, px_mf rf iv)), (rf 20, .inl (c_fields, 26, .inl g_fields)), (rf 22, .inl (c_kept, 89856, .inl g_kept)), (rf 23, .inl (c_keptSmall, 3744, .inl g_keptSmall))] sz) [(h0, .inr (8, px_mf rf u.1)), (rf 20, .inl (c_fields, 26, .inl u.2.1)), (rf 22, .inl (c_kept, 89856, .inl u.2.2.1)), (rf 23, .inl (c_keptSmall, 3744, .inl u.2.2.2))]) (va_A [(h0, .inr (8, px_mf rf iv)), (rf 20, .inl (c_fields, 26, .inl g_fields)), (rf 22, .inl (c_kept, 89856, .inl g_kept)), (rf 23, .inl (c_keptSmall, 3744, .inl g_keptSmall))] sz)) 0 0 (va_A [(h0, .inr (8, px_mf rf iv)), (rf 20, .inl (c_fields, 26, .inl g_fields)), (rf 22, .inl (c_kept, 89856, .inl g_kept)), (rf 23, .inl (c_keptSmall, 3744, .inl g_keptSmall))] sz) := by
  refine Met.ofW (cc := prog_15_method_45_code) (maxL := 4) (ret := (some .int)) (by decide) rfl ?_
  intro p e s m args below meth c s₁ B hml hv
  obtain ⟨rfl, hsz, hP, hK, hD0, hN⟩ := hv
  have hx := B.exec
  have hb := B.bytes
  have hr := B.returns
  have htw : ∀ w ∈ px_all, w.before _ s = true := fun w h => atoms_spec (ws := px_s90) B.pre w (List.mem_cons_of_mem _ h)
  have hown : s.vm.findClass "MatroidDeskModel" = some m.cls := findClass_of_methodNamed B.named
  have hlocks := B.notSynchronized
  subst hsz
  have hD := hD0.self (sz := s.heap.size)
  generalize hAe : va_A [(h0, .inr (8, px_mf rf iv)), (rf 20, .inl (c_fields, 26, .inl g_fields)), (rf 22, .inl (c_kept, 89856, .inl g_kept)), (rf 23, .inl (c_keptSmall, 3744, .inl g_keptSmall))] s.heap.size = A at hD ⊢
  have hA : ∀ q : Nat, s.heap.size ≤ q → A q := fun q h => by rw [← hAe]; exact Or.inr h
  have hS : va_S A s.heap s.heap [] := va_S.rf
  have hP : va_P (dC, dI) vwCl [(h0, .inr (8, px_mf rf iv)), (rf 20, .inl (c_fields, 26, .inl g_fields)), (rf 22, .inl (c_kept, 89856, .inl g_kept)), (rf 23, .inl (c_keptSmall, 3744, .inl g_keptSmall))] s.heap := hP
  have hl := lv_entry ([.ref h0, .int a1x, .int a2x]) (n := 4) (Nat.le_of_ble_eq_true rfl)
  rw [lg_entry_eq]
  generalize (lg_sl ([.ref h0, .int a1x, .int a2x]) ++ List.replicate (4 - (lg_sl ([.ref h0, .int a1x, .int a2x])).length) Slot.unset).toArray = ls at hl ⊢
  have hl : lv_has ls 4 [(0, .ref h0), (1, .int a1x), (2, .int a2x)] := hl
  generalize hQ : MQ _ _ _ _ _ _ _ = Q
  have S63 : ∀ (x1 : Int32) (x2 : Int32) (x3 : Int32) (iv : Nat → Int32) (g_fields : Nat → Int32) (g_kept : Nat → Int32) (g_keptSmall : Nat → Int32) (H : Heap) (locs : List Loc) (ls : Array Slot), va_P (dC, dI) vwCl [(h0, .inr (8, px_mf rf iv)), (rf 20, .inl (c_fields, 26, .inl g_fields)), (rf 22, .inl (c_kept, 89856, .inl g_kept)), (rf 23, .inl (c_keptSmall, 3744, .inl g_keptSmall))] H → va_D A [(h0, .inr (8, px_mf rf iv)), (rf 20, .inl (c_fields, 26, .inl g_fields)), (rf 22, .inl (c_kept, 89856, .inl g_kept)), (rf 23, .inl (c_keptSmall, 3744, .inl g_keptSmall))] → va_S A s.heap H locs → lv_has ls 4 [(0, .ref h0), (1, .int x1), (2, .int x2), (3, .int x3)] → w90_L63 post x1 x2 x3 iv g_fields g_kept g_keptSmall → W p l e (headSpec px_s90 ({ frames := 0, cells := 0, slots := 0, locals := 0 })).room s m ([.ref h0, .int a1x, .int a2x]).toArray below meth c H locs 0 0 Q (F0 m 63 ls []) := by
    intro x1 x2 x3 iv g_fields g_kept g_keptSmall H locs ls hP hD hS hl hw
    unfold w90_L63 at hw
    refine lv_iload_n hx hb px_d90_63 rfl (lv_at hl 3 rfl) ?_
    rw [← hQ]
    exact W.iret (v := x3) hx hb hr (fun t ht hW => ⟨⟨x3, (iv, g_fields, g_kept, g_keptSmall), rfl, hw, by rw [ht]; exact hP, va_K.moved hW.alike hK, hD⟩, hS.F ht⟩) hS.2.2 px_d90_64
  have S2 : ∀ (k2 : Nat) (x1 : Int32) (x2 : Int32) (x3 : Int32) (iv : Nat → Int32) (g_fields : Nat → Int32) (g_kept : Nat → Int32) (g_keptSmall : Nat → Int32) (H : Heap) (locs : List Loc) (ls : Array Slot), va_P (dC, dI) vwCl [(h0, .inr (8, px_mf rf iv)), (rf 20, .inl (c_fields, 26, .inl g_fields)), (rf 22, .inl (c_kept, 89856, .inl g_kept)), (rf 23, .inl (c_keptSmall, 3744, .inl g_keptSmall))] H → va_D A [(h0, .inr (8, px_mf rf iv)), (rf 20, .inl (c_fields, 26, .inl g_fields)), (rf 22, .inl (c_kept, 89856, .inl g_kept)), (rf 23, .inl (c_keptSmall, 3744, .inl g_keptSmall))] → va_S A s.heap H locs → lv_has ls 4 [(0, .ref h0), (1, .int x1), (2, .int x2), (3, .int x3)] → w90_L2 post k2 x1 x2 x3 iv g_fields g_kept g_keptSmall → W p l e (headSpec px_s90 ({ frames := 0, cells := 0, slots := 0, locals := 0 })).room s m ([.ref h0, .int a1x, .int a2x]).toArray below meth c H locs 0 0 Q (F0 m 2 ls []) := by
    intro k2
    induction k2 with
    | zero => intro x1 x2 x3 iv g_fields g_kept g_keptSmall H locs ls hP hD hS hl hw; exact False.elim hw
    | succ k2 ih2 =>
      have S57 : ∀ (x1 : Int32) (x2 : Int32) (x3 : Int32) (iv : Nat → Int32) (g_fields : Nat → Int32) (g_kept : Nat → Int32) (g_keptSmall : Nat → Int32) (H : Heap) (locs : List Loc) (ls : Array Slot), va_P (dC, dI) vwCl [(h0, .inr (8, px_mf rf iv)), (rf 20, .inl (c_fields, 26, .inl g_fields)), (rf 22, .inl (c_kept, 89856, .inl g_kept)), (rf 23, .inl (c_keptSmall, 3744, .inl g_keptSmall))] H → va_D A [(h0, .inr (8, px_mf rf iv)), (rf 20, .inl (c_fields, 26, .inl g_fields)), (rf 22, .inl (c_kept, 89856, .inl g_kept)), (rf 23, .inl (c_keptSmall, 3744, .inl g_keptSmall))] → va_S A s.heap H locs → lv_has ls 4 [(0, .ref h0), (1, .int x1), (2, .int x2), (3, .int x3)] → w90_L57 (w90_L2 post k2) post x1 x2 x3 iv g_fields g_kept g_keptSmall → W p l e (headSpec px_s90 ({ frames := 0, cells := 0, slots := 0, locals := 0 })).room s m ([.ref h0, .int a1x, .int a2x]).toArray below meth c H locs 0 0 Q (F0 m 57 ls []) := by
        intro x1 x2 x3 iv g_fields g_kept g_keptSmall H locs ls hP hD hS hl hw
        unfold w90_L57 at hw
        obtain ⟨z1, ez1⟩ : ∃ y : Int32, y = x3 + 1 := ⟨_, rfl⟩
        have hw := hw z1 ez1
        refine lv_iinc (v := z1) (lv' := [(3, .int z1), (0, .ref h0), (1, .int x1), (2, .int x2)]) hx hb px_d90_57 hl (k := 3) rfl (by rw [ez1]; rfl) (by decide) rfl (fun ls hl => ?_)
        refine lv_goto (tgt := 2) hx hb px_d90_60 (by decide) ?_
        exact ih2 x1 x2 z1 iv g_fields g_kept g_keptSmall H locs ls hP hD hS (lv_sub hl [1, 2, 3, 0] rfl) hw
      intro x1 x2 x3 iv g_fields g_kept g_keptSmall H locs ls hP hD hS hl hw
      unfold w90_L2 at hw
      refine lv_aload_n hx hb px_d90_2 rfl (lv_at hl 0 rfl) ?_
      refine va_get (D := (dC, dI)) (ci := 8) (v := .ref (rf 20)) (C := "MatroidDeskModel") (T := px_T8) (N := 53) hx hb htw px_in8 hown hK hP 0 rfl rfl 20 (by decide) (htw _ px_w503) (fun _ h9 => h9) rfl px_d90_3 ?_
      refine lv_iload_n hx hb px_d90_6 rfl (lv_at hl 1 rfl) ?_
      obtain ⟨hi7, hw⟩ := hw
      refine va_iald hx hb hK hP 1 0 rfl rfl hi7 px_d90_7 ?_
      refine lv_if_ne (tgt := 37) hx hb px_d90_8 (by decide) (fun c8 => ?_) (fun c8 => ?_)
      · have hw := hw.1 c8
        refine lv_aload_n hx hb px_d90_37 rfl (lv_at hl 0 rfl) ?_
        refine va_get (D := (dC, dI)) (ci := 8) (v := .ref (rf 23)) (C := "MatroidDeskModel") (T := px_T8) (N := 53) hx hb htw px_in8 hown hK hP 0 rfl rfl 23 (by decide) (htw _ px_w507) (fun _ h9 => h9) rfl px_d90_38 ?_
        refine lv_sipush (v := 144) hx hb px_d90_41 (by decide) ?_
        refine lv_iload_n hx hb px_d90_44 rfl (lv_at hl 1 rfl) ?_
        refine lv_imul hx hb px_d90_45 ?_
        refine lv_bipush (v := 12) hx hb px_d90_46 (by decide) ?_
        refine lv_iload_n hx hb px_d90_48 rfl (lv_at hl 2 rfl) ?_
        refine lv_imul hx hb px_d90_49 ?_
        refine lv_iadd hx hb px_d90_50 ?_
        refine lv_iload_n hx hb px_d90_51 rfl (lv_at hl 3 rfl) ?_
        refine lv_iadd hx hb px_d90_52 ?_
        obtain ⟨hi53, hw⟩ := hw
        refine va_iald hx hb hK hP 3 2 rfl rfl hi53 px_d90_53 ?_
        refine lv_if_ne (tgt := 63) hx hb px_d90_54 (by decide) (fun c54 => ?_) (fun c54 => ?_)
        · have hw := hw.1 c54
          exact S63 x1 x2 x3 iv g_fields g_kept g_keptSmall H locs ls hP hD hS (lv_sub hl [0, 1, 2, 3] rfl) hw
        · have hw := hw.2 c54
          exact S57 x1 x2 x3 iv g_fields g_kept g_keptSmall H locs ls hP hD hS (lv_sub hl [0, 1, 2, 3] rfl) hw
      · have hw := hw.2 c8
        refine lv_aload_n hx hb px_d90_11 rfl (lv_at hl 0 rfl) ?_
        refine va_get (D := (dC, dI)) (ci := 8) (v := .ref (rf 22)) (C := "MatroidDeskModel") (T := px_T8) (N := 53) hx hb htw px_in8 hown hK hP 0 rfl rfl 22 (by decide) (htw _ px_w506) (fun _ h9 => h9) rfl px_d90_12 ?_
        refine lv_bipush (v := 24) hx hb px_d90_15 (by decide) ?_
        refine lv_sipush (v := 144) hx hb px_d90_17 (by decide) ?_
        refine lv_iload_n hx hb px_d90_20 rfl (lv_at hl 1 rfl) ?_
        refine lv_imul hx hb px_d90_21 ?_
        refine lv_bipush (v := 12) hx hb px_d90_22 (by decide) ?_
        refine lv_iload_n hx hb px_d90_24 rfl (lv_at hl 2 rfl) ?_
        refine lv_imul hx hb px_d90_25 ?_
        refine lv_iadd hx hb px_d90_26 ?_
        refine lv_iload_n hx hb px_d90_27 rfl (lv_at hl 3 rfl) ?_
        refine lv_iadd hx hb px_d90_28 ?_
        refine lv_imul hx hb px_d90_29 ?_
        obtain ⟨hi30, hw⟩ := hw
        refine va_iald hx hb hK hP 2 1 rfl rfl hi30 px_d90_30 ?_
        refine lv_if_ne (tgt := 63) hx hb px_d90_31 (by decide) (fun c31 => ?_) (fun c31 => ?_)
        · have hw := hw.1 c31
          exact S63 x1 x2 x3 iv g_fields g_kept g_keptSmall H locs ls hP hD hS (lv_sub hl [0, 1, 2, 3] rfl) hw
        · have hw := hw.2 c31
          refine lv_goto (tgt := 57) hx hb px_d90_34 (by decide) ?_
          exact S57 x1 x2 x3 iv g_fields g_kept g_keptSmall H locs ls hP hD hS (lv_sub hl [0, 1, 2, 3] rfl) hw
  unfold w90_wp at hw
  have hS0 := hS
  obtain ⟨H, hH9⟩ : ∃ z, z = s.heap := ⟨_, rfl⟩
  have hP : va_P (dC, dI) vwCl [(h0, .inr (8, px_mf rf iv)), (rf 20, .inl (c_fields, 26, .inl g_fields)), (rf 22, .inl (c_kept, 89856, .inl g_kept)), (rf 23, .inl (c_keptSmall, 3744, .inl g_keptSmall))] H := by rw [hH9]; exact hP
  obtain ⟨locs, hlo9⟩ : ∃ z : List Loc, z = [] := ⟨_, rfl⟩
  have hS : va_S A s.heap H locs := by rw [hH9, hlo9]; exact hS
  suffices hG : W p l e (headSpec px_s90 ({ frames := 0, cells := 0, slots := 0, locals := 0 })).room s m ([.ref h0, .int a1x, .int a2x]).toArray below meth c H locs 0 0 Q (F0 m 0 ls []) by rw [hH9, hlo9] at hG; exact hG
  refine lv_iconst (v := 0) hx hb px_d90_0 (by decide) ?_
  refine lv_istore_n (lv' := [(3, .int 0), (0, .ref h0), (1, .int a1x), (2, .int a2x)]) hx hb px_d90_1 rfl hl (by decide) rfl (fun ls hl => ?_)
  obtain ⟨k9, hw⟩ := hw
  exact S2 k9 a1x a2x 0 iv g_fields g_kept g_keptSmall H locs ls hP hD hS (lv_sub hl [1, 2, 3, 0] rfl) hw

