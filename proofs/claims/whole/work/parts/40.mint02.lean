/-! MatroidDeskModel.howMany(II)I -/
def w77_L33 (K5 : Int32 → Int32 → Int32 → Int32 → (Nat → Int32) → (Nat → Int32) → (Nat → Int32) → (Nat → Int32) → (Nat → Int32) → Prop) (post : Int32 → (Nat → Int32) → (Nat → Int32) → (Nat → Int32) → (Nat → Int32) → (Nat → Int32) → Prop) (x1 : Int32) (x2 : Int32) (x3 : Int32) (x4 : Int32) (y0 : Int32) (iv : Nat → Int32) (g_elements : Nat → Int32) (g_ranks : Nat → Int32) (g_rankOf : Nat → Int32) (g_sizes : Nat → Int32) : Prop := ∀ z1 : Int32, z1 = x4 + 1 → K5 x1 x2 y0 z1 iv g_elements g_ranks g_rankOf g_sizes
def w77_L5 (post : Int32 → (Nat → Int32) → (Nat → Int32) → (Nat → Int32) → (Nat → Int32) → (Nat → Int32) → Prop) : Nat → Int32 → Int32 → Int32 → Int32 → (Nat → Int32) → (Nat → Int32) → (Nat → Int32) → (Nat → Int32) → (Nat → Int32) → Prop
  | 0 => fun _ _ _ _ _ _ _ _ _ => False
  | k + 1 => fun x1 x2 x3 x4 iv g_elements g_ranks g_rankOf g_sizes => w71_wp (fun r9 v2 v3 => (r9 < x4 → post x3 v2 v3 g_ranks g_rankOf g_sizes) ∧ (¬ r9 < x4 → w76_wp (fun r20 v4 v5 v6 v7 v8 => (r20 = 0 → w77_L33 (w77_L5 post k) post x1 x2 x3 x4 x3 v4 v5 v6 v7 v8) ∧ (¬ r20 = 0 → w77_L33 (w77_L5 post k) post x1 x2 x3 x4 (x3 + 1) v4 v5 v6 v7 v8)) x1 x2 x4 v2 v3 g_ranks g_rankOf g_sizes)) x1 iv g_elements
def w77_wp (post : Int32 → (Nat → Int32) → (Nat → Int32) → (Nat → Int32) → (Nat → Int32) → (Nat → Int32) → Prop) (a1x : Int32) (a2x : Int32) (iv : Nat → Int32) (g_elements : Nat → Int32) (g_ranks : Nat → Int32) (g_rankOf : Nat → Int32) (g_sizes : Nat → Int32) : Prop := ∃ j5, w77_L5 post j5 a1x a2x 0 0 iv g_elements g_ranks g_rankOf g_sizes
set_option maxHeartbeats 8000000 in
set_option maxRecDepth 100000 in
theorem w77_met (l : Launch) (dC : Nat → ClassId) (dI : Nat → Nat → Nat) (sz : Nat) (h0 : Nat) (rf : Nat → Nat) (c_elements : ClassId) (c_ranks : ClassId) (c_rankOf : ClassId) (c_sizes : ClassId) (a1x : Int32) (a2x : Int32) (iv : Nat → Int32) (g_elements : Nat → Int32) (g_ranks : Nat → Int32) (g_rankOf : Nat → Int32) (g_sizes : Nat → Int32) (post : Int32 → (Nat → Int32) → (Nat → Int32) → (Nat → Int32) → (Nat → Int32) → (Nat → Int32) → Prop) (hw : w77_wp post a1x a2x iv g_elements g_ranks g_rankOf g_sizes) : Met l px_y77 px_s77 ({ frames := 4, cells := 0, slots := 0, locals := 93 }) (va_Pc [.ref h0, .int a1x, .int a2x] (fun U => U.heap.size = sz ∧ va_P (dC, dI) vwCl [(h0, .inr (8, px_mf rf iv)), (rf 19, .inl (c_elements, 26, .inl g_elements)), (rf 21, .inl (c_ranks, 26, .inl g_ranks)), (rf 25, .inl (c_rankOf, 106496, .inl g_rankOf)), (rf 28, .inl (c_sizes, 4096, .inl g_sizes))] U.heap ∧ va_K (dC, dI) vwCl [(c_elements, .int), (c_ranks, .int), (c_rankOf, .byte), (c_sizes, .int)] U ∧ va_D (fun _ => True) [(h0, .inr (8, px_mf rf iv)), (rf 19, .inl (c_elements, 26, .inl g_elements)), (rf 21, .inl (c_ranks, 26, .inl g_ranks)), (rf 25, .inl (c_rankOf, 106496, .inl g_rankOf)), (rf 28, .inl (c_sizes, 4096, .inl g_sizes))] ∧ px_N U)) (va_Qi (fun (r : Int32) (u : (Nat → Int32) × (Nat → Int32) × (Nat → Int32) × (Nat → Int32) × (Nat → Int32)) => post r u.1 u.2.1 u.2.2.1 u.2.2.2.1 u.2.2.2.2) (fun (u : (Nat → Int32) × (Nat → Int32) × (Nat → Int32) × (Nat → Int32) × (Nat → Int32)) (t : State) => va_P (dC, dI) vwCl [(h0, .inr (8, px_mf rf u.1)), (rf 19, .inl (c_elements, 26, .inl u.2.1)), (rf 21, .inl (c_ranks, 26, .inl u.2.2.1)), (rf 25, .inl (c_rankOf, 106496, .inl u.2.2.2.1)), (rf 28, .inl (c_sizes, 4096, .inl u.2.2.2.2))] t.heap ∧ va_K (dC, dI) vwCl [(c_elements, .int), (c_ranks, .int), (c_rankOf, .byte), (c_sizes, .int)] t ∧ va_D (va_A [(h0, .inr (8, px_mf rf iv)), (rf 19, .inl (c_elements, 26, .inl g_elements)), (rf 21, .inl (c_ranks, 26, .inl g_ranks)), (rf 25, .inl (c_rankOf, 106496, .inl g_rankOf)), (rf 28, .inl (c_sizes, 4096, .inl g_sizes))] sz) [(h0, .inr (8, px_mf rf u.1)), (rf 19, .inl (c_elements, 26, .inl u.2.1)), (rf 21, .inl (c_ranks, 26, .inl u.2.2.1)), (rf 25, .inl (c_rankOf, 106496, .inl u.2.2.2.1)), (rf 28, .inl (c_sizes, 4096, .inl u.2.2.2.2))]) (va_A [(h0, .inr (8, px_mf rf iv)), (rf 19, .inl (c_elements, 26, .inl g_elements)), (rf 21, .inl (c_ranks, 26, .inl g_ranks)), (rf 25, .inl (c_rankOf, 106496, .inl g_rankOf)), (rf 28, .inl (c_sizes, 4096, .inl g_sizes))] sz)) 0 0 (va_A [(h0, .inr (8, px_mf rf iv)), (rf 19, .inl (c_elements, 26, .inl g_elements)), (rf 21, .inl (c_ranks, 26, .inl g_ranks)), (rf 25, .inl (c_rankOf, 106496, .inl g_rankOf)), (rf 28, .inl (c_sizes, 4096, .inl g_sizes))] sz) := by
  refine Met.ofW (cc := prog_15_method_32_code) (maxL := 5) (ret := (some .int)) (by decide) rfl ?_
  intro p e s m args below meth c s₁ B hml hv
  obtain ⟨rfl, hsz, hP, hK, hD0, hN⟩ := hv
  have hx := B.exec
  have hb := B.bytes
  have hr := B.returns
  have htw : ∀ w ∈ px_all, w.before _ s = true := fun w h => atoms_spec (ws := px_s77) B.pre w (List.mem_cons_of_mem _ h)
  have hown : s.vm.findClass "MatroidDeskModel" = some m.cls := findClass_of_methodNamed B.named
  have hlocks := B.notSynchronized
  subst hsz
  have hD := hD0.self (sz := s.heap.size)
  generalize hAe : va_A [(h0, .inr (8, px_mf rf iv)), (rf 19, .inl (c_elements, 26, .inl g_elements)), (rf 21, .inl (c_ranks, 26, .inl g_ranks)), (rf 25, .inl (c_rankOf, 106496, .inl g_rankOf)), (rf 28, .inl (c_sizes, 4096, .inl g_sizes))] s.heap.size = A at hD ⊢
  have hA : ∀ q : Nat, s.heap.size ≤ q → A q := fun q h => by rw [← hAe]; exact Or.inr h
  have hS : va_S A s.heap s.heap [] := va_S.rf
  have hP : va_P (dC, dI) vwCl [(h0, .inr (8, px_mf rf iv)), (rf 19, .inl (c_elements, 26, .inl g_elements)), (rf 21, .inl (c_ranks, 26, .inl g_ranks)), (rf 25, .inl (c_rankOf, 106496, .inl g_rankOf)), (rf 28, .inl (c_sizes, 4096, .inl g_sizes))] s.heap := hP
  have hl := lv_entry ([.ref h0, .int a1x, .int a2x]) (n := 5) (Nat.le_of_ble_eq_true rfl)
  rw [lg_entry_eq]
  generalize (lg_sl ([.ref h0, .int a1x, .int a2x]) ++ List.replicate (5 - (lg_sl ([.ref h0, .int a1x, .int a2x])).length) Slot.unset).toArray = ls at hl ⊢
  have hl : lv_has ls 5 [(0, .ref h0), (1, .int a1x), (2, .int a2x)] := hl
  generalize hQ : MQ _ _ _ _ _ _ _ = Q
  have S5 : ∀ (k5 : Nat) (x1 : Int32) (x2 : Int32) (x3 : Int32) (x4 : Int32) (iv : Nat → Int32) (g_elements : Nat → Int32) (g_ranks : Nat → Int32) (g_rankOf : Nat → Int32) (g_sizes : Nat → Int32) (H : Heap) (locs : List Loc) (ls : Array Slot), va_P (dC, dI) vwCl [(h0, .inr (8, px_mf rf iv)), (rf 19, .inl (c_elements, 26, .inl g_elements)), (rf 21, .inl (c_ranks, 26, .inl g_ranks)), (rf 25, .inl (c_rankOf, 106496, .inl g_rankOf)), (rf 28, .inl (c_sizes, 4096, .inl g_sizes))] H → va_D A [(h0, .inr (8, px_mf rf iv)), (rf 19, .inl (c_elements, 26, .inl g_elements)), (rf 21, .inl (c_ranks, 26, .inl g_ranks)), (rf 25, .inl (c_rankOf, 106496, .inl g_rankOf)), (rf 28, .inl (c_sizes, 4096, .inl g_sizes))] → va_S A s.heap H locs → lv_has ls 5 [(0, .ref h0), (1, .int x1), (2, .int x2), (3, .int x3), (4, .int x4)] → w77_L5 post k5 x1 x2 x3 x4 iv g_elements g_ranks g_rankOf g_sizes → W p l e (headSpec px_s77 ({ frames := 4, cells := 0, slots := 0, locals := 93 })).room s m ([.ref h0, .int a1x, .int a2x]).toArray below meth c H locs 0 0 Q (F0 m 5 ls []) := by
    intro k5
    induction k5 with
    | zero => intro x1 x2 x3 x4 iv g_elements g_ranks g_rankOf g_sizes H locs ls hP hD hS hl hw; exact False.elim hw
    | succ k5 ih5 =>
      have S33 : ∀ (x1 : Int32) (x2 : Int32) (x3 : Int32) (x4 : Int32) (y0 : Int32) (iv : Nat → Int32) (g_elements : Nat → Int32) (g_ranks : Nat → Int32) (g_rankOf : Nat → Int32) (g_sizes : Nat → Int32) (H : Heap) (locs : List Loc) (ls : Array Slot), va_P (dC, dI) vwCl [(h0, .inr (8, px_mf rf iv)), (rf 19, .inl (c_elements, 26, .inl g_elements)), (rf 21, .inl (c_ranks, 26, .inl g_ranks)), (rf 25, .inl (c_rankOf, 106496, .inl g_rankOf)), (rf 28, .inl (c_sizes, 4096, .inl g_sizes))] H → va_D A [(h0, .inr (8, px_mf rf iv)), (rf 19, .inl (c_elements, 26, .inl g_elements)), (rf 21, .inl (c_ranks, 26, .inl g_ranks)), (rf 25, .inl (c_rankOf, 106496, .inl g_rankOf)), (rf 28, .inl (c_sizes, 4096, .inl g_sizes))] → va_S A s.heap H locs → lv_has ls 5 [(0, .ref h0), (1, .int x1), (2, .int x2), (3, .int x3), (4, .int x4)] → w77_L33 (w77_L5 post k5) post x1 x2 x3 x4 y0 iv g_elements g_ranks g_rankOf g_sizes → W p l e (headSpec px_s77 ({ frames := 4, cells := 0, slots := 0, locals := 93 })).room s m ([.ref h0, .int a1x, .int a2x]).toArray below meth c H locs 0 0 Q (F0 m 33 ls [.int y0]) := by
        intro x1 x2 x3 x4 y0 iv g_elements g_ranks g_rankOf g_sizes H locs ls hP hD hS hl hw
        unfold w77_L33 at hw
        refine lv_istore_n (lv' := [(3, .int y0), (0, .ref h0), (1, .int x1), (2, .int x2), (4, .int x4)]) hx hb px_d77_33 rfl hl (by decide) rfl (fun ls hl => ?_)
        obtain ⟨z1, ez1⟩ : ∃ y : Int32, y = x4 + 1 := ⟨_, rfl⟩
        have hw := hw z1 ez1
        refine lv_iinc (v := z1) (lv' := [(4, .int z1), (3, .int y0), (0, .ref h0), (1, .int x1), (2, .int x2)]) hx hb px_d77_34 hl (k := 4) rfl (by rw [ez1]; rfl) (by decide) rfl (fun ls hl => ?_)
        refine lv_goto (tgt := 5) hx hb px_d77_37 (by decide) ?_
        exact ih5 x1 x2 y0 z1 iv g_elements g_ranks g_rankOf g_sizes H locs ls hP hD hS (lv_sub hl [2, 3, 4, 1, 0] rfl) hw
      intro x1 x2 x3 x4 iv g_elements g_ranks g_rankOf g_sizes H locs ls hP hD hS hl hw
      unfold w77_L5 at hw
      refine lv_iload hx hb px_d77_5 (lv_at hl 4 rfl) ?_
      refine lv_aload_n hx hb px_d77_7 rfl (lv_at hl 0 rfl) ?_
      refine lv_iload_n hx hb px_d77_8 rfl (lv_at hl 1 rfl) ?_
      have hPc := hP.sub (ws' := [(h0, .inr (8, px_mf rf iv)), (rf 19, .inl (c_elements, 26, .inl g_elements))]) [0, 1] rfl
      have hDc := hD.sub (ws' := [(h0, .inr (8, px_mf rf iv)), (rf 19, .inl (c_elements, 26, .inl g_elements))]) [0, 1] (by decide) rfl
      have hKc := hK.sub (tys' := [(c_elements, .int)]) [0] rfl
      have hFc := va_free (wc := [(h0, .inr (8, px_mf rf iv)), (rf 19, .inl (c_elements, 26, .inl g_elements))]) hD hS hA [0, 1] rfl
      refine va_calli (va_runV (As := [.int x1]) (rest := [.int x4]) ⟨hx, hb, hml, hown, htw⟩ (w71_met l dC dI H.size h0 rf c_elements x1 iv g_elements _ hw) (cwV 1 htw (px_gv px_w565 px_w556 px_w557 px_w94 px_g71) rfl rfl rfl (by decide +kernel) ⟨Nat.le_of_ble_eq_true rfl, Nat.le_of_ble_eq_true rfl⟩) ⟨fun a U g mk q => by obtain ⟨q0, q1, qP, qK, qD, qN⟩ := q; exact ⟨q0, q1, qP, va_K.moved (u := U) (U := U.calling g mk a) (Vm.Alike.refl U.vm) qK, qD, qN.same rfl⟩, va_recv hK hP (ci := 8) (q0 := 0) rfl rfl, fun U hU hW => ⟨rfl, by rw [hU], by rw [hU]; exact hPc, va_K.moved hW.alike hKc, hDc.weaken (fun _ _ _ _ => trivial), hN.warm hW⟩⟩ rfl rfl hl.1 rfl (lv_room (Nat.le_of_ble_eq_true rfl)) px_d77_9 ⟨(Nat.le_of_ble_eq_true rfl), (Nat.le_of_ble_eq_true rfl)⟩) hS (fun q _ h => hFc q h) hFc (fun r9 u t H1 locs ht hvm hw hB hz1 hk1 hS => ?_)
      obtain ⟨v2, v3⟩ := u
      obtain ⟨hP1, hK1, hD1⟩ := hB
      rw [ht] at hP1
      have hK1 := va_K.moved hvm.symm hK1
      obtain ⟨hP, hD⟩ := va_join (wr := [(rf 21, .inl (c_ranks, 26, .inl g_ranks)), (rf 25, .inl (c_rankOf, 106496, .inl g_rankOf)), (rf 28, .inl (c_sizes, 4096, .inl g_sizes))]) (w1 := [(h0, .inr (8, px_mf rf v2)), (rf 19, .inl (c_elements, 26, .inl v3))]) hP hD [0, 1] [2, 3, 4] rfl rfl (by decide) (by decide) hk1 hFc hP1 hD1
      generalize H1 = H at hP hS ⊢
      have hP : va_P (dC, dI) vwCl [(rf 21, .inl (c_ranks, 26, .inl g_ranks)), (rf 25, .inl (c_rankOf, 106496, .inl g_rankOf)), (rf 28, .inl (c_sizes, 4096, .inl g_sizes)), (h0, .inr (8, px_mf rf v2)), (rf 19, .inl (c_elements, 26, .inl v3))] H := hP
      have hD : va_D A [(rf 21, .inl (c_ranks, 26, .inl g_ranks)), (rf 25, .inl (c_rankOf, 106496, .inl g_rankOf)), (rf 28, .inl (c_sizes, 4096, .inl g_sizes)), (h0, .inr (8, px_mf rf v2)), (rf 19, .inl (c_elements, 26, .inl v3))] := hD
      have hP := hP.sub (ws' := [(h0, .inr (8, px_mf rf v2)), (rf 19, .inl (c_elements, 26, .inl v3)), (rf 21, .inl (c_ranks, 26, .inl g_ranks)), (rf 25, .inl (c_rankOf, 106496, .inl g_rankOf)), (rf 28, .inl (c_sizes, 4096, .inl g_sizes))]) [3, 4, 0, 1, 2] rfl
      have hD := hD.sub (ws' := [(h0, .inr (8, px_mf rf v2)), (rf 19, .inl (c_elements, 26, .inl v3)), (rf 21, .inl (c_ranks, 26, .inl g_ranks)), (rf 25, .inl (c_rankOf, 106496, .inl g_rankOf)), (rf 28, .inl (c_sizes, 4096, .inl g_sizes))]) [3, 4, 0, 1, 2] (by decide) rfl
      refine lv_icmp_gt (tgt := 40) hx hb px_d77_12 (by decide) (fun c12 => ?_) (fun c12 => ?_)
      · have hw := hw.1 c12
        refine lv_iload_n hx hb px_d77_40 rfl (lv_at hl 3 rfl) ?_
        rw [← hQ]
        exact W.iret (v := x3) hx hb hr (fun t ht hW => ⟨⟨x3, (v2, v3, g_ranks, g_rankOf, g_sizes), rfl, hw, by rw [ht]; exact hP, va_K.moved hW.alike hK, hD⟩, hS.F ht⟩) hS.2.2 px_d77_41
      · have hw := hw.2 c12
        refine lv_aload_n hx hb px_d77_15 rfl (lv_at hl 0 rfl) ?_
        refine lv_iload_n hx hb px_d77_16 rfl (lv_at hl 1 rfl) ?_
        refine lv_iload_n hx hb px_d77_17 rfl (lv_at hl 2 rfl) ?_
        refine lv_iload hx hb px_d77_18 (lv_at hl 4 rfl) ?_
        have hPc := hP.sub (ws' := [(h0, .inr (8, px_mf rf v2)), (rf 19, .inl (c_elements, 26, .inl v3)), (rf 21, .inl (c_ranks, 26, .inl g_ranks)), (rf 25, .inl (c_rankOf, 106496, .inl g_rankOf)), (rf 28, .inl (c_sizes, 4096, .inl g_sizes))]) [0, 1, 2, 3, 4] rfl
        have hDc := hD.sub (ws' := [(h0, .inr (8, px_mf rf v2)), (rf 19, .inl (c_elements, 26, .inl v3)), (rf 21, .inl (c_ranks, 26, .inl g_ranks)), (rf 25, .inl (c_rankOf, 106496, .inl g_rankOf)), (rf 28, .inl (c_sizes, 4096, .inl g_sizes))]) [0, 1, 2, 3, 4] (by decide) rfl
        have hKc := hK.sub (tys' := [(c_elements, .int), (c_ranks, .int), (c_rankOf, .byte), (c_sizes, .int)]) [0, 1, 2, 3] rfl
        have hFc := va_free (wc := [(h0, .inr (8, px_mf rf v2)), (rf 19, .inl (c_elements, 26, .inl v3)), (rf 21, .inl (c_ranks, 26, .inl g_ranks)), (rf 25, .inl (c_rankOf, 106496, .inl g_rankOf)), (rf 28, .inl (c_sizes, 4096, .inl g_sizes))]) hD hS hA [0, 1, 2, 3, 4] rfl
        refine va_calli (va_runV (As := [.int x1, .int x2, .int x4]) (rest := []) ⟨hx, hb, hml, hown, htw⟩ (w76_met l dC dI H.size h0 rf c_elements c_ranks c_rankOf c_sizes x1 x2 x4 v2 v3 g_ranks g_rankOf g_sizes _ hw) (cwV 3 htw (px_gv px_w582 px_w574 px_w575 px_w94 px_g76) rfl rfl rfl (by decide +kernel) ⟨Nat.le_of_ble_eq_true rfl, Nat.le_of_ble_eq_true rfl⟩) ⟨fun a U g mk q => by obtain ⟨q0, q1, qP, qK, qD, qN⟩ := q; exact ⟨q0, q1, qP, va_K.moved (u := U) (U := U.calling g mk a) (Vm.Alike.refl U.vm) qK, qD, qN.same rfl⟩, va_recv hK hP (ci := 8) (q0 := 0) rfl rfl, fun U hU hW => ⟨rfl, by rw [hU], by rw [hU]; exact hPc, va_K.moved hW.alike hKc, hDc.weaken (fun _ _ _ _ => trivial), hN.warm hW⟩⟩ rfl rfl hl.1 rfl (lv_room (Nat.le_of_ble_eq_true rfl)) px_d77_20 ⟨(Nat.le_of_ble_eq_true rfl), (Nat.le_of_ble_eq_true rfl)⟩) hS (fun q _ h => hFc q h) hFc (fun r20 u t H1 locs ht hvm hw hB hz1 hk1 hS => ?_)
        obtain ⟨v4, v5, v6, v7, v8⟩ := u
        obtain ⟨hP1, hK1, hD1⟩ := hB
        rw [ht] at hP1
        have hK1 := va_K.moved hvm.symm hK1
        obtain ⟨hP, hD⟩ := va_join (wr := []) (w1 := [(h0, .inr (8, px_mf rf v4)), (rf 19, .inl (c_elements, 26, .inl v5)), (rf 21, .inl (c_ranks, 26, .inl v6)), (rf 25, .inl (c_rankOf, 106496, .inl v7)), (rf 28, .inl (c_sizes, 4096, .inl v8))]) hP hD [0, 1, 2, 3, 4] [] rfl rfl (by decide) (by decide) hk1 hFc hP1 hD1
        generalize H1 = H at hP hS ⊢
        have hP : va_P (dC, dI) vwCl [(h0, .inr (8, px_mf rf v4)), (rf 19, .inl (c_elements, 26, .inl v5)), (rf 21, .inl (c_ranks, 26, .inl v6)), (rf 25, .inl (c_rankOf, 106496, .inl v7)), (rf 28, .inl (c_sizes, 4096, .inl v8))] H := hP
        have hD : va_D A [(h0, .inr (8, px_mf rf v4)), (rf 19, .inl (c_elements, 26, .inl v5)), (rf 21, .inl (c_ranks, 26, .inl v6)), (rf 25, .inl (c_rankOf, 106496, .inl v7)), (rf 28, .inl (c_sizes, 4096, .inl v8))] := hD
        refine lv_if_eq (tgt := 32) hx hb px_d77_23 (by decide) (fun c23 => ?_) (fun c23 => ?_)
        · have hw := hw.1 c23
          refine lv_iload_n hx hb px_d77_32 rfl (lv_at hl 3 rfl) ?_
          exact S33 x1 x2 x3 x4 x3 v4 v5 v6 v7 v8 H locs ls hP hD hS (lv_sub hl [0, 1, 2, 3, 4] rfl) hw
        · have hw := hw.2 c23
          refine lv_iload_n hx hb px_d77_26 rfl (lv_at hl 3 rfl) ?_
          refine lv_iconst (v := 1) hx hb px_d77_27 (by decide) ?_
          refine lv_iadd hx hb px_d77_28 ?_
          refine lv_goto (tgt := 33) hx hb px_d77_29 (by decide) ?_
          exact S33 x1 x2 x3 x4 (x3 + 1) v4 v5 v6 v7 v8 H locs ls hP hD hS (lv_sub hl [0, 1, 2, 3, 4] rfl) hw
  unfold w77_wp at hw
  have hS0 := hS
  obtain ⟨H, hH9⟩ : ∃ z, z = s.heap := ⟨_, rfl⟩
  have hP : va_P (dC, dI) vwCl [(h0, .inr (8, px_mf rf iv)), (rf 19, .inl (c_elements, 26, .inl g_elements)), (rf 21, .inl (c_ranks, 26, .inl g_ranks)), (rf 25, .inl (c_rankOf, 106496, .inl g_rankOf)), (rf 28, .inl (c_sizes, 4096, .inl g_sizes))] H := by rw [hH9]; exact hP
  obtain ⟨locs, hlo9⟩ : ∃ z : List Loc, z = [] := ⟨_, rfl⟩
  have hS : va_S A s.heap H locs := by rw [hH9, hlo9]; exact hS
  suffices hG : W p l e (headSpec px_s77 ({ frames := 4, cells := 0, slots := 0, locals := 93 })).room s m ([.ref h0, .int a1x, .int a2x]).toArray below meth c H locs 0 0 Q (F0 m 0 ls []) by rw [hH9, hlo9] at hG; exact hG
  refine lv_iconst (v := 0) hx hb px_d77_0 (by decide) ?_
  refine lv_istore_n (lv' := [(3, .int 0), (0, .ref h0), (1, .int a1x), (2, .int a2x)]) hx hb px_d77_1 rfl hl (by decide) rfl (fun ls hl => ?_)
  refine lv_iconst (v := 0) hx hb px_d77_2 (by decide) ?_
  refine lv_istore (lv' := [(4, .int 0), (3, .int 0), (0, .ref h0), (1, .int a1x), (2, .int a2x)]) hx hb px_d77_3 hl (by decide) rfl (fun ls hl => ?_)
  obtain ⟨k9, hw⟩ := hw
  exact S5 k9 a1x a2x 0 0 iv g_elements g_ranks g_rankOf g_sizes H locs ls hP hD hS (lv_sub hl [2, 3, 4, 1, 0] rfl) hw

/-! MatroidDeskModel.theOne(III)I -/
def w78_L72 (post : Int32 → (Nat → Int32) → (Nat → Int32) → (Nat → Int32) → (Nat → Int32) → (Nat → Int32) → (Nat → Int32) → Prop) (x1 : Int32) (x2 : Int32) (x3 : Int32) (x4 : Int32) (x5 : Int32) (iv : Nat → Int32) (g_elements : Nat → Int32) (g_ranks : Nat → Int32) (g_rankOf : Nat → Int32) (g_order : Nat → Int32) (g_sizes : Nat → Int32) : Prop := post (-1) iv g_elements g_ranks g_rankOf g_order g_sizes
def w78_L66 (K6 : Int32 → Int32 → Int32 → Int32 → Int32 → (Nat → Int32) → (Nat → Int32) → (Nat → Int32) → (Nat → Int32) → (Nat → Int32) → (Nat → Int32) → Prop) (post : Int32 → (Nat → Int32) → (Nat → Int32) → (Nat → Int32) → (Nat → Int32) → (Nat → Int32) → (Nat → Int32) → Prop) (x1 : Int32) (x2 : Int32) (x3 : Int32) (x4 : Int32) (x5 : Int32) (iv : Nat → Int32) (g_elements : Nat → Int32) (g_ranks : Nat → Int32) (g_rankOf : Nat → Int32) (g_order : Nat → Int32) (g_sizes : Nat → Int32) : Prop := ∀ z1 : Int32, z1 = x5 + 1 → K6 x1 x2 x3 x4 z1 iv g_elements g_ranks g_rankOf g_order g_sizes
def w78_L6 (post : Int32 → (Nat → Int32) → (Nat → Int32) → (Nat → Int32) → (Nat → Int32) → (Nat → Int32) → (Nat → Int32) → Prop) : Nat → Int32 → Int32 → Int32 → Int32 → Int32 → (Nat → Int32) → (Nat → Int32) → (Nat → Int32) → (Nat → Int32) → (Nat → Int32) → (Nat → Int32) → Prop
  | 0 => fun _ _ _ _ _ _ _ _ _ _ _ => False
  | k + 1 => fun x1 x2 x3 x4 x5 iv g_elements g_ranks g_rankOf g_order g_sizes => (4096 ≤ x5 → w78_L72 post x1 x2 x3 x4 x5 iv g_elements g_ranks g_rankOf g_order g_sizes) ∧ (¬ 4096 ≤ x5 → (x3 < 0 → w78_L72 post x1 x2 x3 x4 x5 iv g_elements g_ranks g_rankOf g_order g_sizes) ∧ (¬ x3 < 0 → vp_in x5 4096 ∧ (w71_wp (fun r27 v2 v3 => (r27 < (g_order (Int32.toNatClampNeg x5)) → w78_L66 (w78_L6 post k) post x1 x2 x3 x4 x5 v2 v3 g_ranks g_rankOf g_order g_sizes) ∧ (¬ r27 < (g_order (Int32.toNatClampNeg x5)) → vp_in x5 4096 ∧ (w76_wp (fun r43 v4 v5 v6 v7 v8 => (r43 = 0 → w78_L66 (w78_L6 post k) post x1 x2 x3 x4 x5 v4 v5 v6 v7 g_order v8) ∧ (¬ r43 = 0 → (¬ x4 = x3 → ∀ z9 : Int32, z9 = x4 + 1 → w78_L66 (w78_L6 post k) post x1 x2 x3 z9 x5 v4 v5 v6 v7 g_order v8) ∧ (x4 = x3 → vp_in x5 4096 ∧ (post (g_order (Int32.toNatClampNeg x5)) v4 v5 v6 v7 g_order v8)))) x1 x2 (g_order (Int32.toNatClampNeg x5)) v2 v3 g_ranks g_rankOf g_sizes))) x1 iv g_elements)))
def w78_wp (post : Int32 → (Nat → Int32) → (Nat → Int32) → (Nat → Int32) → (Nat → Int32) → (Nat → Int32) → (Nat → Int32) → Prop) (a1x : Int32) (a2x : Int32) (a3x : Int32) (iv : Nat → Int32) (g_elements : Nat → Int32) (g_ranks : Nat → Int32) (g_rankOf : Nat → Int32) (g_order : Nat → Int32) (g_sizes : Nat → Int32) : Prop := ∃ j6, w78_L6 post j6 a1x a2x a3x 0 0 iv g_elements g_ranks g_rankOf g_order g_sizes
set_option maxHeartbeats 8000000 in
set_option maxRecDepth 100000 in
theorem w78_met (l : Launch) (dC : Nat → ClassId) (dI : Nat → Nat → Nat) (sz : Nat) (h0 : Nat) (rf : Nat → Nat) (c_elements : ClassId) (c_ranks : ClassId) (c_rankOf : ClassId) (c_order : ClassId) (c_sizes : ClassId) (a1x : Int32) (a2x : Int32) (a3x : Int32) (iv : Nat → Int32) (g_elements : Nat → Int32) (g_ranks : Nat → Int32) (g_rankOf : Nat → Int32) (g_order : Nat → Int32) (g_sizes : Nat → Int32) (post : Int32 → (Nat → Int32) → (Nat → Int32) → (Nat → Int32) → (Nat → Int32) → (Nat → Int32) → (Nat → Int32) → Prop) (hw : w78_wp post a1x a2x a3x iv g_elements g_ranks g_rankOf g_order g_sizes) : Met l px_y78 px_s78 ({ frames := 4, cells := 0, slots := 0, locals := 93 }) (va_Pc [.ref h0, .int a1x, .int a2x, .int a3x] (fun U => U.heap.size = sz ∧ va_P (dC, dI) vwCl [(h0, .inr (8, px_mf rf iv)), (rf 19, .inl (c_elements, 26, .inl g_elements)), (rf 21, .inl (c_ranks, 26, .inl g_ranks)), (rf 25, .inl (c_rankOf, 106496, .inl g_rankOf)), (rf 27, .inl (c_order, 4096, .inl g_order)), (rf 28, .inl (c_sizes, 4096, .inl g_sizes))] U.heap ∧ va_K (dC, dI) vwCl [(c_elements, .int), (c_ranks, .int), (c_rankOf, .byte), (c_order, .int), (c_sizes, .int)] U ∧ va_D (fun _ => True) [(h0, .inr (8, px_mf rf iv)), (rf 19, .inl (c_elements, 26, .inl g_elements)), (rf 21, .inl (c_ranks, 26, .inl g_ranks)), (rf 25, .inl (c_rankOf, 106496, .inl g_rankOf)), (rf 27, .inl (c_order, 4096, .inl g_order)), (rf 28, .inl (c_sizes, 4096, .inl g_sizes))] ∧ px_N U)) (va_Qi (fun (r : Int32) (u : (Nat → Int32) × (Nat → Int32) × (Nat → Int32) × (Nat → Int32) × (Nat → Int32) × (Nat → Int32)) => post r u.1 u.2.1 u.2.2.1 u.2.2.2.1 u.2.2.2.2.1 u.2.2.2.2.2) (fun (u : (Nat → Int32) × (Nat → Int32) × (Nat → Int32) × (Nat → Int32) × (Nat → Int32) × (Nat → Int32)) (t : State) => va_P (dC, dI) vwCl [(h0, .inr (8, px_mf rf u.1)), (rf 19, .inl (c_elements, 26, .inl u.2.1)), (rf 21, .inl (c_ranks, 26, .inl u.2.2.1)), (rf 25, .inl (c_rankOf, 106496, .inl u.2.2.2.1)), (rf 27, .inl (c_order, 4096, .inl u.2.2.2.2.1)), (rf 28, .inl (c_sizes, 4096, .inl u.2.2.2.2.2))] t.heap ∧ va_K (dC, dI) vwCl [(c_elements, .int), (c_ranks, .int), (c_rankOf, .byte), (c_order, .int), (c_sizes, .int)] t ∧ va_D (va_A [(h0, .inr (8, px_mf rf iv)), (rf 19, .inl (c_elements, 26, .inl g_elements)), (rf 21, .inl (c_ranks, 26, .inl g_ranks)), (rf 25, .inl (c_rankOf, 106496, .inl g_rankOf)), (rf 27, .inl (c_order, 4096, .inl g_order)), (rf 28, .inl (c_sizes, 4096, .inl g_sizes))] sz) [(h0, .inr (8, px_mf rf u.1)), (rf 19, .inl (c_elements, 26, .inl u.2.1)), (rf 21, .inl (c_ranks, 26, .inl u.2.2.1)), (rf 25, .inl (c_rankOf, 106496, .inl u.2.2.2.1)), (rf 27, .inl (c_order, 4096, .inl u.2.2.2.2.1)), (rf 28, .inl (c_sizes, 4096, .inl u.2.2.2.2.2))]) (va_A [(h0, .inr (8, px_mf rf iv)), (rf 19, .inl (c_elements, 26, .inl g_elements)), (rf 21, .inl (c_ranks, 26, .inl g_ranks)), (rf 25, .inl (c_rankOf, 106496, .inl g_rankOf)), (rf 27, .inl (c_order, 4096, .inl g_order)), (rf 28, .inl (c_sizes, 4096, .inl g_sizes))] sz)) 0 0 (va_A [(h0, .inr (8, px_mf rf iv)), (rf 19, .inl (c_elements, 26, .inl g_elements)), (rf 21, .inl (c_ranks, 26, .inl g_ranks)), (rf 25, .inl (c_rankOf, 106496, .inl g_rankOf)), (rf 27, .inl (c_order, 4096, .inl g_order)), (rf 28, .inl (c_sizes, 4096, .inl g_sizes))] sz) := by
  refine Met.ofW (cc := prog_15_method_33_code) (maxL := 6) (ret := (some .int)) (by decide) rfl ?_
  intro p e s m args below meth c s₁ B hml hv
  obtain ⟨rfl, hsz, hP, hK, hD0, hN⟩ := hv
  have hx := B.exec
  have hb := B.bytes
  have hr := B.returns
  have htw : ∀ w ∈ px_all, w.before _ s = true := fun w h => atoms_spec (ws := px_s78) B.pre w (List.mem_cons_of_mem _ h)
  have hown : s.vm.findClass "MatroidDeskModel" = some m.cls := findClass_of_methodNamed B.named
  have hlocks := B.notSynchronized
  subst hsz
  have hD := hD0.self (sz := s.heap.size)
  generalize hAe : va_A [(h0, .inr (8, px_mf rf iv)), (rf 19, .inl (c_elements, 26, .inl g_elements)), (rf 21, .inl (c_ranks, 26, .inl g_ranks)), (rf 25, .inl (c_rankOf, 106496, .inl g_rankOf)), (rf 27, .inl (c_order, 4096, .inl g_order)), (rf 28, .inl (c_sizes, 4096, .inl g_sizes))] s.heap.size = A at hD ⊢
  have hA : ∀ q : Nat, s.heap.size ≤ q → A q := fun q h => by rw [← hAe]; exact Or.inr h
  have hS : va_S A s.heap s.heap [] := va_S.rf
  have hP : va_P (dC, dI) vwCl [(h0, .inr (8, px_mf rf iv)), (rf 19, .inl (c_elements, 26, .inl g_elements)), (rf 21, .inl (c_ranks, 26, .inl g_ranks)), (rf 25, .inl (c_rankOf, 106496, .inl g_rankOf)), (rf 27, .inl (c_order, 4096, .inl g_order)), (rf 28, .inl (c_sizes, 4096, .inl g_sizes))] s.heap := hP
  have hl := lv_entry ([.ref h0, .int a1x, .int a2x, .int a3x]) (n := 6) (Nat.le_of_ble_eq_true rfl)
  rw [lg_entry_eq]
  generalize (lg_sl ([.ref h0, .int a1x, .int a2x, .int a3x]) ++ List.replicate (6 - (lg_sl ([.ref h0, .int a1x, .int a2x, .int a3x])).length) Slot.unset).toArray = ls at hl ⊢
  have hl : lv_has ls 6 [(0, .ref h0), (1, .int a1x), (2, .int a2x), (3, .int a3x)] := hl
  generalize hQ : MQ _ _ _ _ _ _ _ = Q
  have S72 : ∀ (x1 : Int32) (x2 : Int32) (x3 : Int32) (x4 : Int32) (x5 : Int32) (iv : Nat → Int32) (g_elements : Nat → Int32) (g_ranks : Nat → Int32) (g_rankOf : Nat → Int32) (g_order : Nat → Int32) (g_sizes : Nat → Int32) (H : Heap) (locs : List Loc) (ls : Array Slot), va_P (dC, dI) vwCl [(h0, .inr (8, px_mf rf iv)), (rf 19, .inl (c_elements, 26, .inl g_elements)), (rf 21, .inl (c_ranks, 26, .inl g_ranks)), (rf 25, .inl (c_rankOf, 106496, .inl g_rankOf)), (rf 27, .inl (c_order, 4096, .inl g_order)), (rf 28, .inl (c_sizes, 4096, .inl g_sizes))] H → va_D A [(h0, .inr (8, px_mf rf iv)), (rf 19, .inl (c_elements, 26, .inl g_elements)), (rf 21, .inl (c_ranks, 26, .inl g_ranks)), (rf 25, .inl (c_rankOf, 106496, .inl g_rankOf)), (rf 27, .inl (c_order, 4096, .inl g_order)), (rf 28, .inl (c_sizes, 4096, .inl g_sizes))] → va_S A s.heap H locs → lv_has ls 6 [(0, .ref h0), (1, .int x1), (2, .int x2), (3, .int x3), (4, .int x4), (5, .int x5)] → w78_L72 post x1 x2 x3 x4 x5 iv g_elements g_ranks g_rankOf g_order g_sizes → W p l e (headSpec px_s78 ({ frames := 4, cells := 0, slots := 0, locals := 93 })).room s m ([.ref h0, .int a1x, .int a2x, .int a3x]).toArray below meth c H locs 0 0 Q (F0 m 72 ls []) := by
    intro x1 x2 x3 x4 x5 iv g_elements g_ranks g_rankOf g_order g_sizes H locs ls hP hD hS hl hw
    unfold w78_L72 at hw
    refine lv_iconst (v := (-1)) hx hb px_d78_72 (by decide) ?_
    rw [← hQ]
    exact W.iret (v := (-1)) hx hb hr (fun t ht hW => ⟨⟨(-1), (iv, g_elements, g_ranks, g_rankOf, g_order, g_sizes), rfl, hw, by rw [ht]; exact hP, va_K.moved hW.alike hK, hD⟩, hS.F ht⟩) hS.2.2 px_d78_73
  have S6 : ∀ (k6 : Nat) (x1 : Int32) (x2 : Int32) (x3 : Int32) (x4 : Int32) (x5 : Int32) (iv : Nat → Int32) (g_elements : Nat → Int32) (g_ranks : Nat → Int32) (g_rankOf : Nat → Int32) (g_order : Nat → Int32) (g_sizes : Nat → Int32) (H : Heap) (locs : List Loc) (ls : Array Slot), va_P (dC, dI) vwCl [(h0, .inr (8, px_mf rf iv)), (rf 19, .inl (c_elements, 26, .inl g_elements)), (rf 21, .inl (c_ranks, 26, .inl g_ranks)), (rf 25, .inl (c_rankOf, 106496, .inl g_rankOf)), (rf 27, .inl (c_order, 4096, .inl g_order)), (rf 28, .inl (c_sizes, 4096, .inl g_sizes))] H → va_D A [(h0, .inr (8, px_mf rf iv)), (rf 19, .inl (c_elements, 26, .inl g_elements)), (rf 21, .inl (c_ranks, 26, .inl g_ranks)), (rf 25, .inl (c_rankOf, 106496, .inl g_rankOf)), (rf 27, .inl (c_order, 4096, .inl g_order)), (rf 28, .inl (c_sizes, 4096, .inl g_sizes))] → va_S A s.heap H locs → lv_has ls 6 [(0, .ref h0), (1, .int x1), (2, .int x2), (3, .int x3), (4, .int x4), (5, .int x5)] → w78_L6 post k6 x1 x2 x3 x4 x5 iv g_elements g_ranks g_rankOf g_order g_sizes → W p l e (headSpec px_s78 ({ frames := 4, cells := 0, slots := 0, locals := 93 })).room s m ([.ref h0, .int a1x, .int a2x, .int a3x]).toArray below meth c H locs 0 0 Q (F0 m 6 ls []) := by
    intro k6
    induction k6 with
    | zero => intro x1 x2 x3 x4 x5 iv g_elements g_ranks g_rankOf g_order g_sizes H locs ls hP hD hS hl hw; exact False.elim hw
    | succ k6 ih6 =>
      have S66 : ∀ (x1 : Int32) (x2 : Int32) (x3 : Int32) (x4 : Int32) (x5 : Int32) (iv : Nat → Int32) (g_elements : Nat → Int32) (g_ranks : Nat → Int32) (g_rankOf : Nat → Int32) (g_order : Nat → Int32) (g_sizes : Nat → Int32) (H : Heap) (locs : List Loc) (ls : Array Slot), va_P (dC, dI) vwCl [(h0, .inr (8, px_mf rf iv)), (rf 19, .inl (c_elements, 26, .inl g_elements)), (rf 21, .inl (c_ranks, 26, .inl g_ranks)), (rf 25, .inl (c_rankOf, 106496, .inl g_rankOf)), (rf 27, .inl (c_order, 4096, .inl g_order)), (rf 28, .inl (c_sizes, 4096, .inl g_sizes))] H → va_D A [(h0, .inr (8, px_mf rf iv)), (rf 19, .inl (c_elements, 26, .inl g_elements)), (rf 21, .inl (c_ranks, 26, .inl g_ranks)), (rf 25, .inl (c_rankOf, 106496, .inl g_rankOf)), (rf 27, .inl (c_order, 4096, .inl g_order)), (rf 28, .inl (c_sizes, 4096, .inl g_sizes))] → va_S A s.heap H locs → lv_has ls 6 [(0, .ref h0), (1, .int x1), (2, .int x2), (3, .int x3), (4, .int x4), (5, .int x5)] → w78_L66 (w78_L6 post k6) post x1 x2 x3 x4 x5 iv g_elements g_ranks g_rankOf g_order g_sizes → W p l e (headSpec px_s78 ({ frames := 4, cells := 0, slots := 0, locals := 93 })).room s m ([.ref h0, .int a1x, .int a2x, .int a3x]).toArray below meth c H locs 0 0 Q (F0 m 66 ls []) := by
        intro x1 x2 x3 x4 x5 iv g_elements g_ranks g_rankOf g_order g_sizes H locs ls hP hD hS hl hw
        unfold w78_L66 at hw
        obtain ⟨z1, ez1⟩ : ∃ y : Int32, y = x5 + 1 := ⟨_, rfl⟩
        have hw := hw z1 ez1
        refine lv_iinc (v := z1) (lv' := [(5, .int z1), (0, .ref h0), (1, .int x1), (2, .int x2), (3, .int x3), (4, .int x4)]) hx hb px_d78_66 hl (k := 5) rfl (by rw [ez1]; rfl) (by decide) rfl (fun ls hl => ?_)
        refine lv_goto (tgt := 6) hx hb px_d78_69 (by decide) ?_
        exact ih6 x1 x2 x3 x4 z1 iv g_elements g_ranks g_rankOf g_order g_sizes H locs ls hP hD hS (lv_sub hl [1, 2, 3, 4, 5, 0] rfl) hw
      intro x1 x2 x3 x4 x5 iv g_elements g_ranks g_rankOf g_order g_sizes H locs ls hP hD hS hl hw
      unfold w78_L6 at hw
      refine lv_iload hx hb px_d78_6 (lv_at hl 5 rfl) ?_
      refine lv_sipush (v := 4096) hx hb px_d78_8 (by decide) ?_
      refine lv_icmp_ge (tgt := 72) hx hb px_d78_11 (by decide) (fun c11 => ?_) (fun c11 => ?_)
      · have hw := hw.1 c11
        exact S72 x1 x2 x3 x4 x5 iv g_elements g_ranks g_rankOf g_order g_sizes H locs ls hP hD hS (lv_sub hl [0, 1, 2, 3, 4, 5] rfl) hw
      · have hw := hw.2 c11
        refine lv_iload_n hx hb px_d78_14 rfl (lv_at hl 3 rfl) ?_
        refine lv_if_lt (tgt := 72) hx hb px_d78_15 (by decide) (fun c15 => ?_) (fun c15 => ?_)
        · have hw := hw.1 c15
          exact S72 x1 x2 x3 x4 x5 iv g_elements g_ranks g_rankOf g_order g_sizes H locs ls hP hD hS (lv_sub hl [0, 1, 2, 3, 4, 5] rfl) hw
        · have hw := hw.2 c15
          refine lv_aload_n hx hb px_d78_18 rfl (lv_at hl 0 rfl) ?_
          refine va_get (D := (dC, dI)) (ci := 8) (v := .ref (rf 27)) (C := "MatroidDeskModel") (T := px_T8) (N := 53) hx hb htw px_in8 hown hK hP 0 rfl rfl 27 (by decide) (htw _ px_w512) (fun _ h9 => h9) rfl px_d78_19 ?_
          refine lv_iload hx hb px_d78_22 (lv_at hl 5 rfl) ?_
          obtain ⟨hi24, hw⟩ := hw
          refine va_iald hx hb hK hP 4 3 rfl rfl hi24 px_d78_24 ?_
          refine lv_aload_n hx hb px_d78_25 rfl (lv_at hl 0 rfl) ?_
          refine lv_iload_n hx hb px_d78_26 rfl (lv_at hl 1 rfl) ?_
          have hPc := hP.sub (ws' := [(h0, .inr (8, px_mf rf iv)), (rf 19, .inl (c_elements, 26, .inl g_elements))]) [0, 1] rfl
          have hDc := hD.sub (ws' := [(h0, .inr (8, px_mf rf iv)), (rf 19, .inl (c_elements, 26, .inl g_elements))]) [0, 1] (by decide) rfl
          have hKc := hK.sub (tys' := [(c_elements, .int)]) [0] rfl
          have hFc := va_free (wc := [(h0, .inr (8, px_mf rf iv)), (rf 19, .inl (c_elements, 26, .inl g_elements))]) hD hS hA [0, 1] rfl
          refine va_calli (va_runV (As := [.int x1]) (rest := [.int (g_order (Int32.toNatClampNeg x5))]) ⟨hx, hb, hml, hown, htw⟩ (w71_met l dC dI H.size h0 rf c_elements x1 iv g_elements _ hw) (cwV 1 htw (px_gv px_w565 px_w556 px_w557 px_w94 px_g71) rfl rfl rfl (by decide +kernel) ⟨Nat.le_of_ble_eq_true rfl, Nat.le_of_ble_eq_true rfl⟩) ⟨fun a U g mk q => by obtain ⟨q0, q1, qP, qK, qD, qN⟩ := q; exact ⟨q0, q1, qP, va_K.moved (u := U) (U := U.calling g mk a) (Vm.Alike.refl U.vm) qK, qD, qN.same rfl⟩, va_recv hK hP (ci := 8) (q0 := 0) rfl rfl, fun U hU hW => ⟨rfl, by rw [hU], by rw [hU]; exact hPc, va_K.moved hW.alike hKc, hDc.weaken (fun _ _ _ _ => trivial), hN.warm hW⟩⟩ rfl rfl hl.1 rfl (lv_room (Nat.le_of_ble_eq_true rfl)) px_d78_27 ⟨(Nat.le_of_ble_eq_true rfl), (Nat.le_of_ble_eq_true rfl)⟩) hS (fun q _ h => hFc q h) hFc (fun r27 u t H1 locs ht hvm hw hB hz1 hk1 hS => ?_)
          obtain ⟨v2, v3⟩ := u
          obtain ⟨hP1, hK1, hD1⟩ := hB
          rw [ht] at hP1
          have hK1 := va_K.moved hvm.symm hK1
          obtain ⟨hP, hD⟩ := va_join (wr := [(rf 21, .inl (c_ranks, 26, .inl g_ranks)), (rf 25, .inl (c_rankOf, 106496, .inl g_rankOf)), (rf 27, .inl (c_order, 4096, .inl g_order)), (rf 28, .inl (c_sizes, 4096, .inl g_sizes))]) (w1 := [(h0, .inr (8, px_mf rf v2)), (rf 19, .inl (c_elements, 26, .inl v3))]) hP hD [0, 1] [2, 3, 4, 5] rfl rfl (by decide) (by decide) hk1 hFc hP1 hD1
          generalize H1 = H at hP hS ⊢
          have hP : va_P (dC, dI) vwCl [(rf 21, .inl (c_ranks, 26, .inl g_ranks)), (rf 25, .inl (c_rankOf, 106496, .inl g_rankOf)), (rf 27, .inl (c_order, 4096, .inl g_order)), (rf 28, .inl (c_sizes, 4096, .inl g_sizes)), (h0, .inr (8, px_mf rf v2)), (rf 19, .inl (c_elements, 26, .inl v3))] H := hP
          have hD : va_D A [(rf 21, .inl (c_ranks, 26, .inl g_ranks)), (rf 25, .inl (c_rankOf, 106496, .inl g_rankOf)), (rf 27, .inl (c_order, 4096, .inl g_order)), (rf 28, .inl (c_sizes, 4096, .inl g_sizes)), (h0, .inr (8, px_mf rf v2)), (rf 19, .inl (c_elements, 26, .inl v3))] := hD
          have hP := hP.sub (ws' := [(h0, .inr (8, px_mf rf v2)), (rf 19, .inl (c_elements, 26, .inl v3)), (rf 21, .inl (c_ranks, 26, .inl g_ranks)), (rf 25, .inl (c_rankOf, 106496, .inl g_rankOf)), (rf 27, .inl (c_order, 4096, .inl g_order)), (rf 28, .inl (c_sizes, 4096, .inl g_sizes))]) [4, 5, 0, 1, 2, 3] rfl
          have hD := hD.sub (ws' := [(h0, .inr (8, px_mf rf v2)), (rf 19, .inl (c_elements, 26, .inl v3)), (rf 21, .inl (c_ranks, 26, .inl g_ranks)), (rf 25, .inl (c_rankOf, 106496, .inl g_rankOf)), (rf 27, .inl (c_order, 4096, .inl g_order)), (rf 28, .inl (c_sizes, 4096, .inl g_sizes))]) [4, 5, 0, 1, 2, 3] (by decide) rfl
          refine lv_icmp_gt (tgt := 66) hx hb px_d78_30 (by decide) (fun c30 => ?_) (fun c30 => ?_)
          · have hw := hw.1 c30
            exact S66 x1 x2 x3 x4 x5 v2 v3 g_ranks g_rankOf g_order g_sizes H locs ls hP hD hS (lv_sub hl [0, 1, 2, 3, 4, 5] rfl) hw
          · have hw := hw.2 c30
            refine lv_aload_n hx hb px_d78_33 rfl (lv_at hl 0 rfl) ?_
            refine lv_iload_n hx hb px_d78_34 rfl (lv_at hl 1 rfl) ?_
            refine lv_iload_n hx hb px_d78_35 rfl (lv_at hl 2 rfl) ?_
            refine lv_aload_n hx hb px_d78_36 rfl (lv_at hl 0 rfl) ?_
            refine va_get (D := (dC, dI)) (ci := 8) (v := .ref (rf 27)) (C := "MatroidDeskModel") (T := px_T8) (N := 53) hx hb htw px_in8 hown hK hP 0 rfl rfl 27 (by decide) (htw _ px_w512) (fun _ h9 => h9) rfl px_d78_37 ?_
            refine lv_iload hx hb px_d78_40 (lv_at hl 5 rfl) ?_
            obtain ⟨hi42, hw⟩ := hw
            refine va_iald hx hb hK hP 4 3 rfl rfl hi42 px_d78_42 ?_
            have hPc := hP.sub (ws' := [(h0, .inr (8, px_mf rf v2)), (rf 19, .inl (c_elements, 26, .inl v3)), (rf 21, .inl (c_ranks, 26, .inl g_ranks)), (rf 25, .inl (c_rankOf, 106496, .inl g_rankOf)), (rf 28, .inl (c_sizes, 4096, .inl g_sizes))]) [0, 1, 2, 3, 5] rfl
            have hDc := hD.sub (ws' := [(h0, .inr (8, px_mf rf v2)), (rf 19, .inl (c_elements, 26, .inl v3)), (rf 21, .inl (c_ranks, 26, .inl g_ranks)), (rf 25, .inl (c_rankOf, 106496, .inl g_rankOf)), (rf 28, .inl (c_sizes, 4096, .inl g_sizes))]) [0, 1, 2, 3, 5] (by decide) rfl
            have hKc := hK.sub (tys' := [(c_elements, .int), (c_ranks, .int), (c_rankOf, .byte), (c_sizes, .int)]) [0, 1, 2, 4] rfl
            have hFc := va_free (wc := [(h0, .inr (8, px_mf rf v2)), (rf 19, .inl (c_elements, 26, .inl v3)), (rf 21, .inl (c_ranks, 26, .inl g_ranks)), (rf 25, .inl (c_rankOf, 106496, .inl g_rankOf)), (rf 28, .inl (c_sizes, 4096, .inl g_sizes))]) hD hS hA [0, 1, 2, 3, 5] rfl
            refine va_calli (va_runV (As := [.int x1, .int x2, .int (g_order (Int32.toNatClampNeg x5))]) (rest := []) ⟨hx, hb, hml, hown, htw⟩ (w76_met l dC dI H.size h0 rf c_elements c_ranks c_rankOf c_sizes x1 x2 (g_order (Int32.toNatClampNeg x5)) v2 v3 g_ranks g_rankOf g_sizes _ hw) (cwV 3 htw (px_gv px_w582 px_w574 px_w575 px_w94 px_g76) rfl rfl rfl (by decide +kernel) ⟨Nat.le_of_ble_eq_true rfl, Nat.le_of_ble_eq_true rfl⟩) ⟨fun a U g mk q => by obtain ⟨q0, q1, qP, qK, qD, qN⟩ := q; exact ⟨q0, q1, qP, va_K.moved (u := U) (U := U.calling g mk a) (Vm.Alike.refl U.vm) qK, qD, qN.same rfl⟩, va_recv hK hP (ci := 8) (q0 := 0) rfl rfl, fun U hU hW => ⟨rfl, by rw [hU], by rw [hU]; exact hPc, va_K.moved hW.alike hKc, hDc.weaken (fun _ _ _ _ => trivial), hN.warm hW⟩⟩ rfl rfl hl.1 rfl (lv_room (Nat.le_of_ble_eq_true rfl)) px_d78_43 ⟨(Nat.le_of_ble_eq_true rfl), (Nat.le_of_ble_eq_true rfl)⟩) hS (fun q _ h => hFc q h) hFc (fun r43 u t H1 locs ht hvm hw hB hz1 hk1 hS => ?_)
            obtain ⟨v4, v5, v6, v7, v8⟩ := u
            obtain ⟨hP1, hK1, hD1⟩ := hB
            rw [ht] at hP1
            have hK1 := va_K.moved hvm.symm hK1
            obtain ⟨hP, hD⟩ := va_join (wr := [(rf 27, .inl (c_order, 4096, .inl g_order))]) (w1 := [(h0, .inr (8, px_mf rf v4)), (rf 19, .inl (c_elements, 26, .inl v5)), (rf 21, .inl (c_ranks, 26, .inl v6)), (rf 25, .inl (c_rankOf, 106496, .inl v7)), (rf 28, .inl (c_sizes, 4096, .inl v8))]) hP hD [0, 1, 2, 3, 5] [4] rfl rfl (by decide) (by decide) hk1 hFc hP1 hD1
            generalize H1 = H at hP hS ⊢
            have hP : va_P (dC, dI) vwCl [(rf 27, .inl (c_order, 4096, .inl g_order)), (h0, .inr (8, px_mf rf v4)), (rf 19, .inl (c_elements, 26, .inl v5)), (rf 21, .inl (c_ranks, 26, .inl v6)), (rf 25, .inl (c_rankOf, 106496, .inl v7)), (rf 28, .inl (c_sizes, 4096, .inl v8))] H := hP
            have hD : va_D A [(rf 27, .inl (c_order, 4096, .inl g_order)), (h0, .inr (8, px_mf rf v4)), (rf 19, .inl (c_elements, 26, .inl v5)), (rf 21, .inl (c_ranks, 26, .inl v6)), (rf 25, .inl (c_rankOf, 106496, .inl v7)), (rf 28, .inl (c_sizes, 4096, .inl v8))] := hD
            have hP := hP.sub (ws' := [(h0, .inr (8, px_mf rf v4)), (rf 19, .inl (c_elements, 26, .inl v5)), (rf 21, .inl (c_ranks, 26, .inl v6)), (rf 25, .inl (c_rankOf, 106496, .inl v7)), (rf 27, .inl (c_order, 4096, .inl g_order)), (rf 28, .inl (c_sizes, 4096, .inl v8))]) [1, 2, 3, 4, 0, 5] rfl
            have hD := hD.sub (ws' := [(h0, .inr (8, px_mf rf v4)), (rf 19, .inl (c_elements, 26, .inl v5)), (rf 21, .inl (c_ranks, 26, .inl v6)), (rf 25, .inl (c_rankOf, 106496, .inl v7)), (rf 27, .inl (c_order, 4096, .inl g_order)), (rf 28, .inl (c_sizes, 4096, .inl v8))]) [1, 2, 3, 4, 0, 5] (by decide) rfl
            refine lv_if_eq (tgt := 66) hx hb px_d78_46 (by decide) (fun c46 => ?_) (fun c46 => ?_)
            · have hw := hw.1 c46
              exact S66 x1 x2 x3 x4 x5 v4 v5 v6 v7 g_order v8 H locs ls hP hD hS (lv_sub hl [0, 1, 2, 3, 4, 5] rfl) hw
            · have hw := hw.2 c46
              refine lv_iload hx hb px_d78_49 (lv_at hl 4 rfl) ?_
              refine lv_iload_n hx hb px_d78_51 rfl (lv_at hl 3 rfl) ?_
              refine lv_icmp_ne (tgt := 63) hx hb px_d78_52 (by decide) (fun c52 => ?_) (fun c52 => ?_)
              · have hw := hw.1 c52
                obtain ⟨z9, ez9⟩ : ∃ y : Int32, y = x4 + 1 := ⟨_, rfl⟩
                have hw := hw z9 ez9
                refine lv_iinc (v := z9) (lv' := [(4, .int z9), (0, .ref h0), (1, .int x1), (2, .int x2), (3, .int x3), (5, .int x5)]) hx hb px_d78_63 hl (k := 4) rfl (by rw [ez9]; rfl) (by decide) rfl (fun ls hl => ?_)
                exact S66 x1 x2 x3 z9 x5 v4 v5 v6 v7 g_order v8 H locs ls hP hD hS (lv_sub hl [1, 2, 3, 4, 0, 5] rfl) hw
              · have hw := hw.2 c52
                refine lv_aload_n hx hb px_d78_55 rfl (lv_at hl 0 rfl) ?_
                refine va_get (D := (dC, dI)) (ci := 8) (v := .ref (rf 27)) (C := "MatroidDeskModel") (T := px_T8) (N := 53) hx hb htw px_in8 hown hK hP 0 rfl rfl 27 (by decide) (htw _ px_w512) (fun _ h9 => h9) rfl px_d78_56 ?_
                refine lv_iload hx hb px_d78_59 (lv_at hl 5 rfl) ?_
                obtain ⟨hi61, hw⟩ := hw
                refine va_iald hx hb hK hP 4 3 rfl rfl hi61 px_d78_61 ?_
                rw [← hQ]
                exact W.iret (v := g_order (Int32.toNatClampNeg x5)) hx hb hr (fun t ht hW => ⟨⟨g_order (Int32.toNatClampNeg x5), (v4, v5, v6, v7, g_order, v8), rfl, hw, by rw [ht]; exact hP, va_K.moved hW.alike hK, hD⟩, hS.F ht⟩) hS.2.2 px_d78_62
  unfold w78_wp at hw
  have hS0 := hS
  obtain ⟨H, hH9⟩ : ∃ z, z = s.heap := ⟨_, rfl⟩
  have hP : va_P (dC, dI) vwCl [(h0, .inr (8, px_mf rf iv)), (rf 19, .inl (c_elements, 26, .inl g_elements)), (rf 21, .inl (c_ranks, 26, .inl g_ranks)), (rf 25, .inl (c_rankOf, 106496, .inl g_rankOf)), (rf 27, .inl (c_order, 4096, .inl g_order)), (rf 28, .inl (c_sizes, 4096, .inl g_sizes))] H := by rw [hH9]; exact hP
  obtain ⟨locs, hlo9⟩ : ∃ z : List Loc, z = [] := ⟨_, rfl⟩
  have hS : va_S A s.heap H locs := by rw [hH9, hlo9]; exact hS
  suffices hG : W p l e (headSpec px_s78 ({ frames := 4, cells := 0, slots := 0, locals := 93 })).room s m ([.ref h0, .int a1x, .int a2x, .int a3x]).toArray below meth c H locs 0 0 Q (F0 m 0 ls []) by rw [hH9, hlo9] at hG; exact hG
  refine lv_iconst (v := 0) hx hb px_d78_0 (by decide) ?_
  refine lv_istore (lv' := [(4, .int 0), (0, .ref h0), (1, .int a1x), (2, .int a2x), (3, .int a3x)]) hx hb px_d78_1 hl (by decide) rfl (fun ls hl => ?_)
  refine lv_iconst (v := 0) hx hb px_d78_3 (by decide) ?_
  refine lv_istore (lv' := [(5, .int 0), (4, .int 0), (0, .ref h0), (1, .int a1x), (2, .int a2x), (3, .int a3x)]) hx hb px_d78_4 hl (by decide) rfl (fun ls hl => ?_)
  obtain ⟨k9, hw⟩ := hw
  exact S6 k9 a1x a2x a3x 0 0 iv g_elements g_ranks g_rankOf g_order g_sizes H locs ls hP hD hS (lv_sub hl [2, 3, 4, 5, 1, 0] rfl) hw

/-! MatroidDeskModel.bestOf(I)I -/
def w80_L112 (K7 : Int32 → Int32 → Int32 → Int32 → (Nat → Int32) → (Nat → Int32) → (Nat → Int32) → (Nat → Int32) → (Nat → Int32) → (Nat → Int32) → (Nat → Int32) → Prop) (post : Int32 → (Nat → Int32) → (Nat → Int32) → (Nat → Int32) → (Nat → Int32) → (Nat → Int32) → (Nat → Int32) → (Nat → Int32) → Prop) (x1 : Int32) (x2 : Int32) (x3 : Int32) (x4 : Int32) (x5 : Int32) (iv : Nat → Int32) (g_elements : Nat → Int32) (g_ranks : Nat → Int32) (g_weights : Nat → Int32) (g_rankOf : Nat → Int32) (g_order : Nat → Int32) (g_sizes : Nat → Int32) : Prop := ∀ z1 : Int32, z1 = x4 + 1 → K7 x1 x2 x3 z1 iv g_elements g_ranks g_weights g_rankOf g_order g_sizes
def w80_L106 (K7 : Int32 → Int32 → Int32 → Int32 → (Nat → Int32) → (Nat → Int32) → (Nat → Int32) → (Nat → Int32) → (Nat → Int32) → (Nat → Int32) → (Nat → Int32) → Prop) (post : Int32 → (Nat → Int32) → (Nat → Int32) → (Nat → Int32) → (Nat → Int32) → (Nat → Int32) → (Nat → Int32) → (Nat → Int32) → Prop) (x1 : Int32) (x2 : Int32) (x3 : Int32) (x4 : Int32) (x5 : Int32) (x6 : Int32) (x7 : Int32) (iv : Nat → Int32) (g_elements : Nat → Int32) (g_ranks : Nat → Int32) (g_weights : Nat → Int32) (g_rankOf : Nat → Int32) (g_order : Nat → Int32) (g_sizes : Nat → Int32) : Prop := w80_L112 K7 post x1 x5 x6 x4 x5 iv g_elements g_ranks g_weights g_rankOf g_order g_sizes
def w80_L54 (K7 : Int32 → Int32 → Int32 → Int32 → (Nat → Int32) → (Nat → Int32) → (Nat → Int32) → (Nat → Int32) → (Nat → Int32) → (Nat → Int32) → (Nat → Int32) → Prop) (post : Int32 → (Nat → Int32) → (Nat → Int32) → (Nat → Int32) → (Nat → Int32) → (Nat → Int32) → (Nat → Int32) → (Nat → Int32) → Prop) : Nat → Int32 → Int32 → Int32 → Int32 → Int32 → Int32 → Int32 → (Nat → Int32) → (Nat → Int32) → (Nat → Int32) → (Nat → Int32) → (Nat → Int32) → (Nat → Int32) → (Nat → Int32) → Prop
  | 0 => fun _ _ _ _ _ _ _ _ _ _ _ _ _ _ => False
  | k + 1 => fun x1 x2 x3 x4 x5 x6 x7 iv g_elements g_ranks g_weights g_rankOf g_order g_sizes => vp_in x1 26 ∧ (((g_elements (Int32.toNatClampNeg x1)) ≤ x7 → (x2 < 0 → w80_L106 K7 post x1 x2 x3 x4 x5 x6 x7 iv g_elements g_ranks g_weights g_rankOf g_order g_sizes) ∧ (¬ x2 < 0 → (x6 ≤ x3 → w80_L112 K7 post x1 x2 x3 x4 x5 iv g_elements g_ranks g_weights g_rankOf g_order g_sizes) ∧ (¬ x6 ≤ x3 → w80_L106 K7 post x1 x2 x3 x4 x5 x6 x7 iv g_elements g_ranks g_weights g_rankOf g_order g_sizes))) ∧ (¬ (g_elements (Int32.toNatClampNeg x1)) ≤ x7 → vp_in ((12 * x1) + x7) 312 ∧ (∀ z2 : Int32, z2 = x6 + (((x5 >>> (x7 &&& 31)) &&& 1) * (g_weights (Int32.toNatClampNeg ((12 * x1) + x7)))) → ∀ z3 : Int32, z3 = x7 + 1 → (w80_L54 K7 post k) x1 x2 x3 x4 x5 z2 z3 iv g_elements g_ranks g_weights g_rankOf g_order g_sizes)))
def w80_L7 (post : Int32 → (Nat → Int32) → (Nat → Int32) → (Nat → Int32) → (Nat → Int32) → (Nat → Int32) → (Nat → Int32) → (Nat → Int32) → Prop) : Nat → Int32 → Int32 → Int32 → Int32 → (Nat → Int32) → (Nat → Int32) → (Nat → Int32) → (Nat → Int32) → (Nat → Int32) → (Nat → Int32) → (Nat → Int32) → Prop
  | 0 => fun _ _ _ _ _ _ _ _ _ _ _ => False
  | k + 1 => fun x1 x2 x3 x4 iv g_elements g_ranks g_weights g_rankOf g_order g_sizes => (4096 ≤ x4 → post x2 iv g_elements g_ranks g_weights g_rankOf g_order g_sizes) ∧ (¬ 4096 ≤ x4 → vp_in x4 4096 ∧ (∀ z4 : Int32, z4 = g_order (Int32.toNatClampNeg x4) → w71_wp (fun r28 v5 v6 => (r28 < z4 → w80_L112 (w80_L7 post k) post x1 x2 x3 x4 z4 v5 v6 g_ranks g_weights g_rankOf g_order g_sizes) ∧ (¬ r28 < z4 → w76_wp (fun r39 v7 v8 v9 v10 v11 => (¬ r39 = 0 → ∃ j54, w80_L54 (w80_L7 post k) post j54 x1 x2 x3 x4 z4 0 0 v7 v8 v9 g_weights v10 g_order v11) ∧ (r39 = 0 → w80_L112 (w80_L7 post k) post x1 x2 x3 x4 z4 v7 v8 v9 g_weights v10 g_order v11)) x1 0 z4 v5 v6 g_ranks g_rankOf g_sizes)) x1 iv g_elements))
def w80_wp (post : Int32 → (Nat → Int32) → (Nat → Int32) → (Nat → Int32) → (Nat → Int32) → (Nat → Int32) → (Nat → Int32) → (Nat → Int32) → Prop) (a1x : Int32) (iv : Nat → Int32) (g_elements : Nat → Int32) (g_ranks : Nat → Int32) (g_weights : Nat → Int32) (g_rankOf : Nat → Int32) (g_order : Nat → Int32) (g_sizes : Nat → Int32) : Prop := ∃ j7, w80_L7 post j7 a1x (-1) 0 0 iv g_elements g_ranks g_weights g_rankOf g_order g_sizes
set_option maxHeartbeats 8000000 in
set_option maxRecDepth 100000 in
theorem w80_met (l : Launch) (dC : Nat → ClassId) (dI : Nat → Nat → Nat) (sz : Nat) (h0 : Nat) (rf : Nat → Nat) (c_elements : ClassId) (c_ranks : ClassId) (c_weights : ClassId) (c_rankOf : ClassId) (c_order : ClassId) (c_sizes : ClassId) (a1x : Int32) (iv : Nat → Int32) (g_elements : Nat → Int32) (g_ranks : Nat → Int32) (g_weights : Nat → Int32) (g_rankOf : Nat → Int32) (g_order : Nat → Int32) (g_sizes : Nat → Int32) (post : Int32 → (Nat → Int32) → (Nat → Int32) → (Nat → Int32) → (Nat → Int32) → (Nat → Int32) → (Nat → Int32) → (Nat → Int32) → Prop) (hw : w80_wp post a1x iv g_elements g_ranks g_weights g_rankOf g_order g_sizes) : Met l px_y80 px_s80 ({ frames := 4, cells := 0, slots := 0, locals := 93 }) (va_Pc [.ref h0, .int a1x] (fun U => U.heap.size = sz ∧ va_P (dC, dI) vwCl [(h0, .inr (8, px_mf rf iv)), (rf 19, .inl (c_elements, 26, .inl g_elements)), (rf 21, .inl (c_ranks, 26, .inl g_ranks)), (rf 24, .inl (c_weights, 312, .inl g_weights)), (rf 25, .inl (c_rankOf, 106496, .inl g_rankOf)), (rf 27, .inl (c_order, 4096, .inl g_order)), (rf 28, .inl (c_sizes, 4096, .inl g_sizes))] U.heap ∧ va_K (dC, dI) vwCl [(c_elements, .int), (c_ranks, .int), (c_weights, .int), (c_rankOf, .byte), (c_order, .int), (c_sizes, .int)] U ∧ va_D (fun _ => True) [(h0, .inr (8, px_mf rf iv)), (rf 19, .inl (c_elements, 26, .inl g_elements)), (rf 21, .inl (c_ranks, 26, .inl g_ranks)), (rf 24, .inl (c_weights, 312, .inl g_weights)), (rf 25, .inl (c_rankOf, 106496, .inl g_rankOf)), (rf 27, .inl (c_order, 4096, .inl g_order)), (rf 28, .inl (c_sizes, 4096, .inl g_sizes))] ∧ px_N U)) (va_Qi (fun (r : Int32) (u : (Nat → Int32) × (Nat → Int32) × (Nat → Int32) × (Nat → Int32) × (Nat → Int32) × (Nat → Int32) × (Nat → Int32)) => post r u.1 u.2.1 u.2.2.1 u.2.2.2.1 u.2.2.2.2.1 u.2.2.2.2.2.1 u.2.2.2.2.2.2) (fun (u : (Nat → Int32) × (Nat → Int32) × (Nat → Int32) × (Nat → Int32) × (Nat → Int32) × (Nat → Int32) × (Nat → Int32)) (t : State) => va_P (dC, dI) vwCl [(h0, .inr (8, px_mf rf u.1)), (rf 19, .inl (c_elements, 26, .inl u.2.1)), (rf 21, .inl (c_ranks, 26, .inl u.2.2.1)), (rf 24, .inl (c_weights, 312, .inl u.2.2.2.1)), (rf 25, .inl (c_rankOf, 106496, .inl u.2.2.2.2.1)), (rf 27, .inl (c_order, 4096, .inl u.2.2.2.2.2.1)), (rf 28, .inl (c_sizes, 4096, .inl u.2.2.2.2.2.2))] t.heap ∧ va_K (dC, dI) vwCl [(c_elements, .int), (c_ranks, .int), (c_weights, .int), (c_rankOf, .byte), (c_order, .int), (c_sizes, .int)] t ∧ va_D (va_A [(h0, .inr (8, px_mf rf iv)), (rf 19, .inl (c_elements, 26, .inl g_elements)), (rf 21, .inl (c_ranks, 26, .inl g_ranks)), (rf 24, .inl (c_weights, 312, .inl g_weights)), (rf 25, .inl (c_rankOf, 106496, .inl g_rankOf)), (rf 27, .inl (c_order, 4096, .inl g_order)), (rf 28, .inl (c_sizes, 4096, .inl g_sizes))] sz) [(h0, .inr (8, px_mf rf u.1)), (rf 19, .inl (c_elements, 26, .inl u.2.1)), (rf 21, .inl (c_ranks, 26, .inl u.2.2.1)), (rf 24, .inl (c_weights, 312, .inl u.2.2.2.1)), (rf 25, .inl (c_rankOf, 106496, .inl u.2.2.2.2.1)), (rf 27, .inl (c_order, 4096, .inl u.2.2.2.2.2.1)), (rf 28, .inl (c_sizes, 4096, .inl u.2.2.2.2.2.2))]) (va_A [(h0, .inr (8, px_mf rf iv)), (rf 19, .inl (c_elements, 26, .inl g_elements)), (rf 21, .inl (c_ranks, 26, .inl g_ranks)), (rf 24, .inl (c_weights, 312, .inl g_weights)), (rf 25, .inl (c_rankOf, 106496, .inl g_rankOf)), (rf 27, .inl (c_order, 4096, .inl g_order)), (rf 28, .inl (c_sizes, 4096, .inl g_sizes))] sz)) 0 0 (va_A [(h0, .inr (8, px_mf rf iv)), (rf 19, .inl (c_elements, 26, .inl g_elements)), (rf 21, .inl (c_ranks, 26, .inl g_ranks)), (rf 24, .inl (c_weights, 312, .inl g_weights)), (rf 25, .inl (c_rankOf, 106496, .inl g_rankOf)), (rf 27, .inl (c_order, 4096, .inl g_order)), (rf 28, .inl (c_sizes, 4096, .inl g_sizes))] sz) := by
  refine Met.ofW (cc := prog_15_method_35_code) (maxL := 8) (ret := (some .int)) (by decide) rfl ?_
  intro p e s m args below meth c s₁ B hml hv
  obtain ⟨rfl, hsz, hP, hK, hD0, hN⟩ := hv
  have hx := B.exec
  have hb := B.bytes
  have hr := B.returns
  have htw : ∀ w ∈ px_all, w.before _ s = true := fun w h => atoms_spec (ws := px_s80) B.pre w (List.mem_cons_of_mem _ h)
  have hown : s.vm.findClass "MatroidDeskModel" = some m.cls := findClass_of_methodNamed B.named
  have hlocks := B.notSynchronized
  subst hsz
  have hD := hD0.self (sz := s.heap.size)
  generalize hAe : va_A [(h0, .inr (8, px_mf rf iv)), (rf 19, .inl (c_elements, 26, .inl g_elements)), (rf 21, .inl (c_ranks, 26, .inl g_ranks)), (rf 24, .inl (c_weights, 312, .inl g_weights)), (rf 25, .inl (c_rankOf, 106496, .inl g_rankOf)), (rf 27, .inl (c_order, 4096, .inl g_order)), (rf 28, .inl (c_sizes, 4096, .inl g_sizes))] s.heap.size = A at hD ⊢
  have hA : ∀ q : Nat, s.heap.size ≤ q → A q := fun q h => by rw [← hAe]; exact Or.inr h
  have hS : va_S A s.heap s.heap [] := va_S.rf
  have hP : va_P (dC, dI) vwCl [(h0, .inr (8, px_mf rf iv)), (rf 19, .inl (c_elements, 26, .inl g_elements)), (rf 21, .inl (c_ranks, 26, .inl g_ranks)), (rf 24, .inl (c_weights, 312, .inl g_weights)), (rf 25, .inl (c_rankOf, 106496, .inl g_rankOf)), (rf 27, .inl (c_order, 4096, .inl g_order)), (rf 28, .inl (c_sizes, 4096, .inl g_sizes))] s.heap := hP
  have hl := lv_entry ([.ref h0, .int a1x]) (n := 8) (Nat.le_of_ble_eq_true rfl)
  rw [lg_entry_eq]
  generalize (lg_sl ([.ref h0, .int a1x]) ++ List.replicate (8 - (lg_sl ([.ref h0, .int a1x])).length) Slot.unset).toArray = ls at hl ⊢
  have hl : lv_has ls 8 [(0, .ref h0), (1, .int a1x)] := hl
  generalize hQ : MQ _ _ _ _ _ _ _ = Q
  have S7 : ∀ (k7 : Nat) (x1 : Int32) (x2 : Int32) (x3 : Int32) (x4 : Int32) (iv : Nat → Int32) (g_elements : Nat → Int32) (g_ranks : Nat → Int32) (g_weights : Nat → Int32) (g_rankOf : Nat → Int32) (g_order : Nat → Int32) (g_sizes : Nat → Int32) (H : Heap) (locs : List Loc) (ls : Array Slot), va_P (dC, dI) vwCl [(h0, .inr (8, px_mf rf iv)), (rf 19, .inl (c_elements, 26, .inl g_elements)), (rf 21, .inl (c_ranks, 26, .inl g_ranks)), (rf 24, .inl (c_weights, 312, .inl g_weights)), (rf 25, .inl (c_rankOf, 106496, .inl g_rankOf)), (rf 27, .inl (c_order, 4096, .inl g_order)), (rf 28, .inl (c_sizes, 4096, .inl g_sizes))] H → va_D A [(h0, .inr (8, px_mf rf iv)), (rf 19, .inl (c_elements, 26, .inl g_elements)), (rf 21, .inl (c_ranks, 26, .inl g_ranks)), (rf 24, .inl (c_weights, 312, .inl g_weights)), (rf 25, .inl (c_rankOf, 106496, .inl g_rankOf)), (rf 27, .inl (c_order, 4096, .inl g_order)), (rf 28, .inl (c_sizes, 4096, .inl g_sizes))] → va_S A s.heap H locs → lv_has ls 8 [(0, .ref h0), (1, .int x1), (2, .int x2), (3, .int x3), (4, .int x4)] → w80_L7 post k7 x1 x2 x3 x4 iv g_elements g_ranks g_weights g_rankOf g_order g_sizes → W p l e (headSpec px_s80 ({ frames := 4, cells := 0, slots := 0, locals := 93 })).room s m ([.ref h0, .int a1x]).toArray below meth c H locs 0 0 Q (F0 m 7 ls []) := by
    intro k7
    induction k7 with
    | zero => intro x1 x2 x3 x4 iv g_elements g_ranks g_weights g_rankOf g_order g_sizes H locs ls hP hD hS hl hw; exact False.elim hw
    | succ k7 ih7 =>
      have S112 : ∀ (x1 : Int32) (x2 : Int32) (x3 : Int32) (x4 : Int32) (x5 : Int32) (iv : Nat → Int32) (g_elements : Nat → Int32) (g_ranks : Nat → Int32) (g_weights : Nat → Int32) (g_rankOf : Nat → Int32) (g_order : Nat → Int32) (g_sizes : Nat → Int32) (H : Heap) (locs : List Loc) (ls : Array Slot), va_P (dC, dI) vwCl [(h0, .inr (8, px_mf rf iv)), (rf 19, .inl (c_elements, 26, .inl g_elements)), (rf 21, .inl (c_ranks, 26, .inl g_ranks)), (rf 24, .inl (c_weights, 312, .inl g_weights)), (rf 25, .inl (c_rankOf, 106496, .inl g_rankOf)), (rf 27, .inl (c_order, 4096, .inl g_order)), (rf 28, .inl (c_sizes, 4096, .inl g_sizes))] H → va_D A [(h0, .inr (8, px_mf rf iv)), (rf 19, .inl (c_elements, 26, .inl g_elements)), (rf 21, .inl (c_ranks, 26, .inl g_ranks)), (rf 24, .inl (c_weights, 312, .inl g_weights)), (rf 25, .inl (c_rankOf, 106496, .inl g_rankOf)), (rf 27, .inl (c_order, 4096, .inl g_order)), (rf 28, .inl (c_sizes, 4096, .inl g_sizes))] → va_S A s.heap H locs → lv_has ls 8 [(0, .ref h0), (1, .int x1), (2, .int x2), (3, .int x3), (4, .int x4), (5, .int x5)] → w80_L112 (w80_L7 post k7) post x1 x2 x3 x4 x5 iv g_elements g_ranks g_weights g_rankOf g_order g_sizes → W p l e (headSpec px_s80 ({ frames := 4, cells := 0, slots := 0, locals := 93 })).room s m ([.ref h0, .int a1x]).toArray below meth c H locs 0 0 Q (F0 m 112 ls []) := by
        intro x1 x2 x3 x4 x5 iv g_elements g_ranks g_weights g_rankOf g_order g_sizes H locs ls hP hD hS hl hw
        unfold w80_L112 at hw
        obtain ⟨z1, ez1⟩ : ∃ y : Int32, y = x4 + 1 := ⟨_, rfl⟩
        have hw := hw z1 ez1
        refine lv_iinc (v := z1) (lv' := [(4, .int z1), (0, .ref h0), (1, .int x1), (2, .int x2), (3, .int x3), (5, .int x5)]) hx hb px_d80_112 hl (k := 4) rfl (by rw [ez1]; rfl) (by decide) rfl (fun ls hl => ?_)
        refine lv_goto (tgt := 7) hx hb px_d80_115 (by decide) ?_
        exact ih7 x1 x2 x3 z1 iv g_elements g_ranks g_weights g_rankOf g_order g_sizes H locs ls hP hD hS (lv_sub hl [1, 2, 3, 4, 0] rfl) hw
      have S106 : ∀ (x1 : Int32) (x2 : Int32) (x3 : Int32) (x4 : Int32) (x5 : Int32) (x6 : Int32) (x7 : Int32) (iv : Nat → Int32) (g_elements : Nat → Int32) (g_ranks : Nat → Int32) (g_weights : Nat → Int32) (g_rankOf : Nat → Int32) (g_order : Nat → Int32) (g_sizes : Nat → Int32) (H : Heap) (locs : List Loc) (ls : Array Slot), va_P (dC, dI) vwCl [(h0, .inr (8, px_mf rf iv)), (rf 19, .inl (c_elements, 26, .inl g_elements)), (rf 21, .inl (c_ranks, 26, .inl g_ranks)), (rf 24, .inl (c_weights, 312, .inl g_weights)), (rf 25, .inl (c_rankOf, 106496, .inl g_rankOf)), (rf 27, .inl (c_order, 4096, .inl g_order)), (rf 28, .inl (c_sizes, 4096, .inl g_sizes))] H → va_D A [(h0, .inr (8, px_mf rf iv)), (rf 19, .inl (c_elements, 26, .inl g_elements)), (rf 21, .inl (c_ranks, 26, .inl g_ranks)), (rf 24, .inl (c_weights, 312, .inl g_weights)), (rf 25, .inl (c_rankOf, 106496, .inl g_rankOf)), (rf 27, .inl (c_order, 4096, .inl g_order)), (rf 28, .inl (c_sizes, 4096, .inl g_sizes))] → va_S A s.heap H locs → lv_has ls 8 [(0, .ref h0), (1, .int x1), (2, .int x2), (3, .int x3), (4, .int x4), (5, .int x5), (6, .int x6), (7, .int x7)] → w80_L106 (w80_L7 post k7) post x1 x2 x3 x4 x5 x6 x7 iv g_elements g_ranks g_weights g_rankOf g_order g_sizes → W p l e (headSpec px_s80 ({ frames := 4, cells := 0, slots := 0, locals := 93 })).room s m ([.ref h0, .int a1x]).toArray below meth c H locs 0 0 Q (F0 m 106 ls []) := by
        intro x1 x2 x3 x4 x5 x6 x7 iv g_elements g_ranks g_weights g_rankOf g_order g_sizes H locs ls hP hD hS hl hw
        unfold w80_L106 at hw
        refine lv_iload hx hb px_d80_106 (lv_at hl 5 rfl) ?_
        refine lv_istore_n (lv' := [(2, .int x5), (0, .ref h0), (1, .int x1), (3, .int x3), (4, .int x4), (5, .int x5), (6, .int x6), (7, .int x7)]) hx hb px_d80_108 rfl hl (by decide) rfl (fun ls hl => ?_)
        refine lv_iload hx hb px_d80_109 (lv_at hl 6 rfl) ?_
        refine lv_istore_n (lv' := [(3, .int x6), (2, .int x5), (0, .ref h0), (1, .int x1), (4, .int x4), (5, .int x5), (6, .int x6), (7, .int x7)]) hx hb px_d80_111 rfl hl (by decide) rfl (fun ls hl => ?_)
        exact S112 x1 x5 x6 x4 x5 iv g_elements g_ranks g_weights g_rankOf g_order g_sizes H locs ls hP hD hS (lv_sub hl [2, 3, 1, 0, 4, 5] rfl) hw
      have S54 : ∀ (k54 : Nat) (x1 : Int32) (x2 : Int32) (x3 : Int32) (x4 : Int32) (x5 : Int32) (x6 : Int32) (x7 : Int32) (iv : Nat → Int32) (g_elements : Nat → Int32) (g_ranks : Nat → Int32) (g_weights : Nat → Int32) (g_rankOf : Nat → Int32) (g_order : Nat → Int32) (g_sizes : Nat → Int32) (H : Heap) (locs : List Loc) (ls : Array Slot), va_P (dC, dI) vwCl [(h0, .inr (8, px_mf rf iv)), (rf 19, .inl (c_elements, 26, .inl g_elements)), (rf 21, .inl (c_ranks, 26, .inl g_ranks)), (rf 24, .inl (c_weights, 312, .inl g_weights)), (rf 25, .inl (c_rankOf, 106496, .inl g_rankOf)), (rf 27, .inl (c_order, 4096, .inl g_order)), (rf 28, .inl (c_sizes, 4096, .inl g_sizes))] H → va_D A [(h0, .inr (8, px_mf rf iv)), (rf 19, .inl (c_elements, 26, .inl g_elements)), (rf 21, .inl (c_ranks, 26, .inl g_ranks)), (rf 24, .inl (c_weights, 312, .inl g_weights)), (rf 25, .inl (c_rankOf, 106496, .inl g_rankOf)), (rf 27, .inl (c_order, 4096, .inl g_order)), (rf 28, .inl (c_sizes, 4096, .inl g_sizes))] → va_S A s.heap H locs → lv_has ls 8 [(0, .ref h0), (1, .int x1), (2, .int x2), (3, .int x3), (4, .int x4), (5, .int x5), (6, .int x6), (7, .int x7)] → w80_L54 (w80_L7 post k7) post k54 x1 x2 x3 x4 x5 x6 x7 iv g_elements g_ranks g_weights g_rankOf g_order g_sizes → W p l e (headSpec px_s80 ({ frames := 4, cells := 0, slots := 0, locals := 93 })).room s m ([.ref h0, .int a1x]).toArray below meth c H locs 0 0 Q (F0 m 54 ls []) := by
        intro k54
        induction k54 with
        | zero => intro x1 x2 x3 x4 x5 x6 x7 iv g_elements g_ranks g_weights g_rankOf g_order g_sizes H locs ls hP hD hS hl hw; exact False.elim hw
        | succ k54 ih54 =>
          intro x1 x2 x3 x4 x5 x6 x7 iv g_elements g_ranks g_weights g_rankOf g_order g_sizes H locs ls hP hD hS hl hw
          unfold w80_L54 at hw
          refine lv_iload hx hb px_d80_54 (lv_at hl 7 rfl) ?_
          refine lv_aload_n hx hb px_d80_56 rfl (lv_at hl 0 rfl) ?_
          refine va_get (D := (dC, dI)) (ci := 8) (v := .ref (rf 19)) (C := "MatroidDeskModel") (T := px_T8) (N := 53) hx hb htw px_in8 hown hK hP 0 rfl rfl 19 (by decide) (htw _ px_w502) (fun _ h9 => h9) rfl px_d80_57 ?_
          refine lv_iload_n hx hb px_d80_60 rfl (lv_at hl 1 rfl) ?_
          obtain ⟨hi61, hw⟩ := hw
          refine va_iald hx hb hK hP 1 0 rfl rfl hi61 px_d80_61 ?_
          refine lv_icmp_ge (tgt := 96) hx hb px_d80_62 (by decide) (fun c62 => ?_) (fun c62 => ?_)
          · have hw := hw.1 c62
            refine lv_iload_n hx hb px_d80_96 rfl (lv_at hl 2 rfl) ?_
            refine lv_if_lt (tgt := 106) hx hb px_d80_97 (by decide) (fun c97 => ?_) (fun c97 => ?_)
            · have hw := hw.1 c97
              exact S106 x1 x2 x3 x4 x5 x6 x7 iv g_elements g_ranks g_weights g_rankOf g_order g_sizes H locs ls hP hD hS (lv_sub hl [0, 1, 2, 3, 4, 5, 6, 7] rfl) hw
            · have hw := hw.2 c97
              refine lv_iload hx hb px_d80_100 (lv_at hl 6 rfl) ?_
              refine lv_iload_n hx hb px_d80_102 rfl (lv_at hl 3 rfl) ?_
              refine lv_icmp_le (tgt := 112) hx hb px_d80_103 (by decide) (fun c103 => ?_) (fun c103 => ?_)
              · have hw := hw.1 c103
                exact S112 x1 x2 x3 x4 x5 iv g_elements g_ranks g_weights g_rankOf g_order g_sizes H locs ls hP hD hS (lv_sub hl [0, 1, 2, 3, 4, 5] rfl) hw
              · have hw := hw.2 c103
                exact S106 x1 x2 x3 x4 x5 x6 x7 iv g_elements g_ranks g_weights g_rankOf g_order g_sizes H locs ls hP hD hS (lv_sub hl [0, 1, 2, 3, 4, 5, 6, 7] rfl) hw
          · have hw := hw.2 c62
            refine lv_iload hx hb px_d80_65 (lv_at hl 6 rfl) ?_
            refine lv_iload hx hb px_d80_67 (lv_at hl 5 rfl) ?_
            refine lv_iload hx hb px_d80_69 (lv_at hl 7 rfl) ?_
            refine lv_ishr hx hb px_d80_71 ?_
            refine lv_iconst (v := 1) hx hb px_d80_72 (by decide) ?_
            refine lv_iand hx hb px_d80_73 ?_
            refine lv_aload_n hx hb px_d80_74 rfl (lv_at hl 0 rfl) ?_
            refine va_get (D := (dC, dI)) (ci := 8) (v := .ref (rf 24)) (C := "MatroidDeskModel") (T := px_T8) (N := 53) hx hb htw px_in8 hown hK hP 0 rfl rfl 24 (by decide) (htw _ px_w508) (fun _ h9 => h9) rfl px_d80_75 ?_
            refine lv_bipush (v := 12) hx hb px_d80_78 (by decide) ?_
            refine lv_iload_n hx hb px_d80_80 rfl (lv_at hl 1 rfl) ?_
            refine lv_imul hx hb px_d80_81 ?_
            refine lv_iload hx hb px_d80_82 (lv_at hl 7 rfl) ?_
            refine lv_iadd hx hb px_d80_84 ?_
            obtain ⟨hi85, hw⟩ := hw
            refine va_iald hx hb hK hP 3 2 rfl rfl hi85 px_d80_85 ?_
            refine lv_imul hx hb px_d80_86 ?_
            refine lv_iadd hx hb px_d80_87 ?_
            refine lv_topi (fun z2 ez2 => ?_)
            have hw := hw z2 ez2
            refine lv_istore (lv' := [(6, .int z2), (0, .ref h0), (1, .int x1), (2, .int x2), (3, .int x3), (4, .int x4), (5, .int x5), (7, .int x7)]) hx hb px_d80_88 hl (by decide) rfl (fun ls hl => ?_)
            obtain ⟨z3, ez3⟩ : ∃ y : Int32, y = x7 + 1 := ⟨_, rfl⟩
            have hw := hw z3 ez3
            refine lv_iinc (v := z3) (lv' := [(7, .int z3), (6, .int z2), (0, .ref h0), (1, .int x1), (2, .int x2), (3, .int x3), (4, .int x4), (5, .int x5)]) hx hb px_d80_90 hl (k := 7) rfl (by rw [ez3]; rfl) (by decide) rfl (fun ls hl => ?_)
            refine lv_goto (tgt := 54) hx hb px_d80_93 (by decide) ?_
            exact ih54 x1 x2 x3 x4 x5 z2 z3 iv g_elements g_ranks g_weights g_rankOf g_order g_sizes H locs ls hP hD hS (lv_sub hl [2, 3, 4, 5, 6, 7, 1, 0] rfl) hw
      intro x1 x2 x3 x4 iv g_elements g_ranks g_weights g_rankOf g_order g_sizes H locs ls hP hD hS hl hw
      unfold w80_L7 at hw
      refine lv_iload hx hb px_d80_7 (lv_at hl 4 rfl) ?_
      refine lv_sipush (v := 4096) hx hb px_d80_9 (by decide) ?_
      refine lv_icmp_ge (tgt := 118) hx hb px_d80_12 (by decide) (fun c12 => ?_) (fun c12 => ?_)
      · have hw := hw.1 c12
        refine lv_iload_n hx hb px_d80_118 rfl (lv_at hl 2 rfl) ?_
        rw [← hQ]
        exact W.iret (v := x2) hx hb hr (fun t ht hW => ⟨⟨x2, (iv, g_elements, g_ranks, g_weights, g_rankOf, g_order, g_sizes), rfl, hw, by rw [ht]; exact hP, va_K.moved hW.alike hK, hD⟩, hS.F ht⟩) hS.2.2 px_d80_119
      · have hw := hw.2 c12
        refine lv_aload_n hx hb px_d80_15 rfl (lv_at hl 0 rfl) ?_
        refine va_get (D := (dC, dI)) (ci := 8) (v := .ref (rf 27)) (C := "MatroidDeskModel") (T := px_T8) (N := 53) hx hb htw px_in8 hown hK hP 0 rfl rfl 27 (by decide) (htw _ px_w512) (fun _ h9 => h9) rfl px_d80_16 ?_
        refine lv_iload hx hb px_d80_19 (lv_at hl 4 rfl) ?_
        obtain ⟨hi21, hw⟩ := hw
        refine va_iald hx hb hK hP 5 4 rfl rfl hi21 px_d80_21 ?_
        refine lv_topi (fun z4 ez4 => ?_)
        have hw := hw z4 ez4
        refine lv_istore (lv' := [(5, .int z4), (0, .ref h0), (1, .int x1), (2, .int x2), (3, .int x3), (4, .int x4)]) hx hb px_d80_22 hl (by decide) rfl (fun ls hl => ?_)
        refine lv_iload hx hb px_d80_24 (lv_at hl 0 rfl) ?_
        refine lv_aload_n hx hb px_d80_26 rfl (lv_at hl 1 rfl) ?_
        refine lv_iload_n hx hb px_d80_27 rfl (lv_at hl 2 rfl) ?_
        have hPc := hP.sub (ws' := [(h0, .inr (8, px_mf rf iv)), (rf 19, .inl (c_elements, 26, .inl g_elements))]) [0, 1] rfl
        have hDc := hD.sub (ws' := [(h0, .inr (8, px_mf rf iv)), (rf 19, .inl (c_elements, 26, .inl g_elements))]) [0, 1] (by decide) rfl
        have hKc := hK.sub (tys' := [(c_elements, .int)]) [0] rfl
        have hFc := va_free (wc := [(h0, .inr (8, px_mf rf iv)), (rf 19, .inl (c_elements, 26, .inl g_elements))]) hD hS hA [0, 1] rfl
        refine va_calli (va_runV (As := [.int x1]) (rest := [.int z4]) ⟨hx, hb, hml, hown, htw⟩ (w71_met l dC dI H.size h0 rf c_elements x1 iv g_elements _ hw) (cwV 1 htw (px_gv px_w565 px_w556 px_w557 px_w94 px_g71) rfl rfl rfl (by decide +kernel) ⟨Nat.le_of_ble_eq_true rfl, Nat.le_of_ble_eq_true rfl⟩) ⟨fun a U g mk q => by obtain ⟨q0, q1, qP, qK, qD, qN⟩ := q; exact ⟨q0, q1, qP, va_K.moved (u := U) (U := U.calling g mk a) (Vm.Alike.refl U.vm) qK, qD, qN.same rfl⟩, va_recv hK hP (ci := 8) (q0 := 0) rfl rfl, fun U hU hW => ⟨rfl, by rw [hU], by rw [hU]; exact hPc, va_K.moved hW.alike hKc, hDc.weaken (fun _ _ _ _ => trivial), hN.warm hW⟩⟩ rfl rfl hl.1 rfl (lv_room (Nat.le_of_ble_eq_true rfl)) px_d80_28 ⟨(Nat.le_of_ble_eq_true rfl), (Nat.le_of_ble_eq_true rfl)⟩) hS (fun q _ h => hFc q h) hFc (fun r28 u t H1 locs ht hvm hw hB hz1 hk1 hS => ?_)
        obtain ⟨v5, v6⟩ := u
        obtain ⟨hP1, hK1, hD1⟩ := hB
        rw [ht] at hP1
        have hK1 := va_K.moved hvm.symm hK1
        obtain ⟨hP, hD⟩ := va_join (wr := [(rf 21, .inl (c_ranks, 26, .inl g_ranks)), (rf 24, .inl (c_weights, 312, .inl g_weights)), (rf 25, .inl (c_rankOf, 106496, .inl g_rankOf)), (rf 27, .inl (c_order, 4096, .inl g_order)), (rf 28, .inl (c_sizes, 4096, .inl g_sizes))]) (w1 := [(h0, .inr (8, px_mf rf v5)), (rf 19, .inl (c_elements, 26, .inl v6))]) hP hD [0, 1] [2, 3, 4, 5, 6] rfl rfl (by decide) (by decide) hk1 hFc hP1 hD1
        generalize H1 = H at hP hS ⊢
        have hP : va_P (dC, dI) vwCl [(rf 21, .inl (c_ranks, 26, .inl g_ranks)), (rf 24, .inl (c_weights, 312, .inl g_weights)), (rf 25, .inl (c_rankOf, 106496, .inl g_rankOf)), (rf 27, .inl (c_order, 4096, .inl g_order)), (rf 28, .inl (c_sizes, 4096, .inl g_sizes)), (h0, .inr (8, px_mf rf v5)), (rf 19, .inl (c_elements, 26, .inl v6))] H := hP
        have hD : va_D A [(rf 21, .inl (c_ranks, 26, .inl g_ranks)), (rf 24, .inl (c_weights, 312, .inl g_weights)), (rf 25, .inl (c_rankOf, 106496, .inl g_rankOf)), (rf 27, .inl (c_order, 4096, .inl g_order)), (rf 28, .inl (c_sizes, 4096, .inl g_sizes)), (h0, .inr (8, px_mf rf v5)), (rf 19, .inl (c_elements, 26, .inl v6))] := hD
        have hP := hP.sub (ws' := [(h0, .inr (8, px_mf rf v5)), (rf 19, .inl (c_elements, 26, .inl v6)), (rf 21, .inl (c_ranks, 26, .inl g_ranks)), (rf 24, .inl (c_weights, 312, .inl g_weights)), (rf 25, .inl (c_rankOf, 106496, .inl g_rankOf)), (rf 27, .inl (c_order, 4096, .inl g_order)), (rf 28, .inl (c_sizes, 4096, .inl g_sizes))]) [5, 6, 0, 1, 2, 3, 4] rfl
        have hD := hD.sub (ws' := [(h0, .inr (8, px_mf rf v5)), (rf 19, .inl (c_elements, 26, .inl v6)), (rf 21, .inl (c_ranks, 26, .inl g_ranks)), (rf 24, .inl (c_weights, 312, .inl g_weights)), (rf 25, .inl (c_rankOf, 106496, .inl g_rankOf)), (rf 27, .inl (c_order, 4096, .inl g_order)), (rf 28, .inl (c_sizes, 4096, .inl g_sizes))]) [5, 6, 0, 1, 2, 3, 4] (by decide) rfl
        refine lv_icmp_gt (tgt := 112) hx hb px_d80_31 (by decide) (fun c31 => ?_) (fun c31 => ?_)
        · have hw := hw.1 c31
          exact S112 x1 x2 x3 x4 z4 v5 v6 g_ranks g_weights g_rankOf g_order g_sizes H locs ls hP hD hS (lv_sub hl [1, 2, 3, 4, 5, 0] rfl) hw
        · have hw := hw.2 c31
          refine lv_aload_n hx hb px_d80_34 rfl (lv_at hl 1 rfl) ?_
          refine lv_iload_n hx hb px_d80_35 rfl (lv_at hl 2 rfl) ?_
          refine lv_iconst (v := 0) hx hb px_d80_36 (by decide) ?_
          refine lv_iload hx hb px_d80_37 (lv_at hl 0 rfl) ?_
          have hPc := hP.sub (ws' := [(h0, .inr (8, px_mf rf v5)), (rf 19, .inl (c_elements, 26, .inl v6)), (rf 21, .inl (c_ranks, 26, .inl g_ranks)), (rf 25, .inl (c_rankOf, 106496, .inl g_rankOf)), (rf 28, .inl (c_sizes, 4096, .inl g_sizes))]) [0, 1, 2, 4, 6] rfl
          have hDc := hD.sub (ws' := [(h0, .inr (8, px_mf rf v5)), (rf 19, .inl (c_elements, 26, .inl v6)), (rf 21, .inl (c_ranks, 26, .inl g_ranks)), (rf 25, .inl (c_rankOf, 106496, .inl g_rankOf)), (rf 28, .inl (c_sizes, 4096, .inl g_sizes))]) [0, 1, 2, 4, 6] (by decide) rfl
          have hKc := hK.sub (tys' := [(c_elements, .int), (c_ranks, .int), (c_rankOf, .byte), (c_sizes, .int)]) [0, 1, 3, 5] rfl
          have hFc := va_free (wc := [(h0, .inr (8, px_mf rf v5)), (rf 19, .inl (c_elements, 26, .inl v6)), (rf 21, .inl (c_ranks, 26, .inl g_ranks)), (rf 25, .inl (c_rankOf, 106496, .inl g_rankOf)), (rf 28, .inl (c_sizes, 4096, .inl g_sizes))]) hD hS hA [0, 1, 2, 4, 6] rfl
          refine va_calli (va_runV (As := [.int x1, .int 0, .int z4]) (rest := []) ⟨hx, hb, hml, hown, htw⟩ (w76_met l dC dI H.size h0 rf c_elements c_ranks c_rankOf c_sizes x1 0 z4 v5 v6 g_ranks g_rankOf g_sizes _ hw) (cwV 3 htw (px_gv px_w582 px_w574 px_w575 px_w94 px_g76) rfl rfl rfl (by decide +kernel) ⟨Nat.le_of_ble_eq_true rfl, Nat.le_of_ble_eq_true rfl⟩) ⟨fun a U g mk q => by obtain ⟨q0, q1, qP, qK, qD, qN⟩ := q; exact ⟨q0, q1, qP, va_K.moved (u := U) (U := U.calling g mk a) (Vm.Alike.refl U.vm) qK, qD, qN.same rfl⟩, va_recv hK hP (ci := 8) (q0 := 0) rfl rfl, fun U hU hW => ⟨rfl, by rw [hU], by rw [hU]; exact hPc, va_K.moved hW.alike hKc, hDc.weaken (fun _ _ _ _ => trivial), hN.warm hW⟩⟩ rfl rfl hl.1 rfl (lv_room (Nat.le_of_ble_eq_true rfl)) px_d80_39 ⟨(Nat.le_of_ble_eq_true rfl), (Nat.le_of_ble_eq_true rfl)⟩) hS (fun q _ h => hFc q h) hFc (fun r39 u t H1 locs ht hvm hw hB hz1 hk1 hS => ?_)
          obtain ⟨v7, v8, v9, v10, v11⟩ := u
          obtain ⟨hP1, hK1, hD1⟩ := hB
          rw [ht] at hP1
          have hK1 := va_K.moved hvm.symm hK1
          obtain ⟨hP, hD⟩ := va_join (wr := [(rf 24, .inl (c_weights, 312, .inl g_weights)), (rf 27, .inl (c_order, 4096, .inl g_order))]) (w1 := [(h0, .inr (8, px_mf rf v7)), (rf 19, .inl (c_elements, 26, .inl v8)), (rf 21, .inl (c_ranks, 26, .inl v9)), (rf 25, .inl (c_rankOf, 106496, .inl v10)), (rf 28, .inl (c_sizes, 4096, .inl v11))]) hP hD [0, 1, 2, 4, 6] [3, 5] rfl rfl (by decide) (by decide) hk1 hFc hP1 hD1
          generalize H1 = H at hP hS ⊢
          have hP : va_P (dC, dI) vwCl [(rf 24, .inl (c_weights, 312, .inl g_weights)), (rf 27, .inl (c_order, 4096, .inl g_order)), (h0, .inr (8, px_mf rf v7)), (rf 19, .inl (c_elements, 26, .inl v8)), (rf 21, .inl (c_ranks, 26, .inl v9)), (rf 25, .inl (c_rankOf, 106496, .inl v10)), (rf 28, .inl (c_sizes, 4096, .inl v11))] H := hP
          have hD : va_D A [(rf 24, .inl (c_weights, 312, .inl g_weights)), (rf 27, .inl (c_order, 4096, .inl g_order)), (h0, .inr (8, px_mf rf v7)), (rf 19, .inl (c_elements, 26, .inl v8)), (rf 21, .inl (c_ranks, 26, .inl v9)), (rf 25, .inl (c_rankOf, 106496, .inl v10)), (rf 28, .inl (c_sizes, 4096, .inl v11))] := hD
          have hP := hP.sub (ws' := [(h0, .inr (8, px_mf rf v7)), (rf 19, .inl (c_elements, 26, .inl v8)), (rf 21, .inl (c_ranks, 26, .inl v9)), (rf 24, .inl (c_weights, 312, .inl g_weights)), (rf 25, .inl (c_rankOf, 106496, .inl v10)), (rf 27, .inl (c_order, 4096, .inl g_order)), (rf 28, .inl (c_sizes, 4096, .inl v11))]) [2, 3, 4, 0, 5, 1, 6] rfl
          have hD := hD.sub (ws' := [(h0, .inr (8, px_mf rf v7)), (rf 19, .inl (c_elements, 26, .inl v8)), (rf 21, .inl (c_ranks, 26, .inl v9)), (rf 24, .inl (c_weights, 312, .inl g_weights)), (rf 25, .inl (c_rankOf, 106496, .inl v10)), (rf 27, .inl (c_order, 4096, .inl g_order)), (rf 28, .inl (c_sizes, 4096, .inl v11))]) [2, 3, 4, 0, 5, 1, 6] (by decide) rfl
          refine lv_if_ne (tgt := 48) hx hb px_d80_42 (by decide) (fun c42 => ?_) (fun c42 => ?_)
          · have hw := hw.1 c42
            refine lv_iconst (v := 0) hx hb px_d80_48 (by decide) ?_
            refine lv_istore (lv' := [(6, .int 0), (5, .int z4), (0, .ref h0), (1, .int x1), (2, .int x2), (3, .int x3), (4, .int x4)]) hx hb px_d80_49 hl (by decide) rfl (fun ls hl => ?_)
            refine lv_iconst (v := 0) hx hb px_d80_51 (by decide) ?_
            refine lv_istore (lv' := [(7, .int 0), (6, .int 0), (5, .int z4), (0, .ref h0), (1, .int x1), (2, .int x2), (3, .int x3), (4, .int x4)]) hx hb px_d80_52 hl (by decide) rfl (fun ls hl => ?_)
            obtain ⟨k9, hw⟩ := hw
            exact S54 k9 x1 x2 x3 x4 z4 0 0 v7 v8 v9 g_weights v10 g_order v11 H locs ls hP hD hS (lv_sub hl [3, 4, 5, 6, 7, 2, 1, 0] rfl) hw
          · have hw := hw.2 c42
            refine lv_goto (tgt := 112) hx hb px_d80_45 (by decide) ?_
            exact S112 x1 x2 x3 x4 z4 v7 v8 v9 g_weights v10 g_order v11 H locs ls hP hD hS (lv_sub hl [1, 2, 3, 4, 5, 0] rfl) hw
  unfold w80_wp at hw
  have hS0 := hS
  obtain ⟨H, hH9⟩ : ∃ z, z = s.heap := ⟨_, rfl⟩
  have hP : va_P (dC, dI) vwCl [(h0, .inr (8, px_mf rf iv)), (rf 19, .inl (c_elements, 26, .inl g_elements)), (rf 21, .inl (c_ranks, 26, .inl g_ranks)), (rf 24, .inl (c_weights, 312, .inl g_weights)), (rf 25, .inl (c_rankOf, 106496, .inl g_rankOf)), (rf 27, .inl (c_order, 4096, .inl g_order)), (rf 28, .inl (c_sizes, 4096, .inl g_sizes))] H := by rw [hH9]; exact hP
  obtain ⟨locs, hlo9⟩ : ∃ z : List Loc, z = [] := ⟨_, rfl⟩
  have hS : va_S A s.heap H locs := by rw [hH9, hlo9]; exact hS
  suffices hG : W p l e (headSpec px_s80 ({ frames := 4, cells := 0, slots := 0, locals := 93 })).room s m ([.ref h0, .int a1x]).toArray below meth c H locs 0 0 Q (F0 m 0 ls []) by rw [hH9, hlo9] at hG; exact hG
  refine lv_iconst (v := (-1)) hx hb px_d80_0 (by decide) ?_
  refine lv_istore_n (lv' := [(2, .int (-1)), (0, .ref h0), (1, .int a1x)]) hx hb px_d80_1 rfl hl (by decide) rfl (fun ls hl => ?_)
  refine lv_iconst (v := 0) hx hb px_d80_2 (by decide) ?_
  refine lv_istore_n (lv' := [(3, .int 0), (2, .int (-1)), (0, .ref h0), (1, .int a1x)]) hx hb px_d80_3 rfl hl (by decide) rfl (fun ls hl => ?_)
  refine lv_iconst (v := 0) hx hb px_d80_4 (by decide) ?_
  refine lv_istore (lv' := [(4, .int 0), (3, .int 0), (2, .int (-1)), (0, .ref h0), (1, .int a1x)]) hx hb px_d80_5 hl (by decide) rfl (fun ls hl => ?_)
  obtain ⟨k9, hw⟩ := hw
  exact S7 k9 a1x (-1) 0 0 iv g_elements g_ranks g_weights g_rankOf g_order g_sizes H locs ls hP hD hS (lv_sub hl [3, 4, 2, 1, 0] rfl) hw

/-! MatroidDeskModel.commonOf(II)I -/
def w81_L71 (K5 : Int32 → Int32 → Int32 → Int32 → (Nat → Int32) → (Nat → Int32) → (Nat → Int32) → (Nat → Int32) → (Nat → Int32) → Prop) (post : Int32 → (Nat → Int32) → (Nat → Int32) → (Nat → Int32) → (Nat → Int32) → (Nat → Int32) → Prop) (x1 : Int32) (x2 : Int32) (x3 : Int32) (x4 : Int32) (x5 : Int32) (iv : Nat → Int32) (g_elements : Nat → Int32) (g_rankOf : Nat → Int32) (g_order : Nat → Int32) (g_sizes : Nat → Int32) : Prop := ∀ z1 : Int32, z1 = x4 + 1 → K5 x1 x2 x3 z1 iv g_elements g_rankOf g_order g_sizes
def w81_L5 (post : Int32 → (Nat → Int32) → (Nat → Int32) → (Nat → Int32) → (Nat → Int32) → (Nat → Int32) → Prop) : Nat → Int32 → Int32 → Int32 → Int32 → (Nat → Int32) → (Nat → Int32) → (Nat → Int32) → (Nat → Int32) → (Nat → Int32) → Prop
  | 0 => fun _ _ _ _ _ _ _ _ _ => False
  | k + 1 => fun x1 x2 x3 x4 iv g_elements g_rankOf g_order g_sizes => (4096 ≤ x4 → post x3 iv g_elements g_rankOf g_order g_sizes) ∧ (¬ 4096 ≤ x4 → vp_in x4 4096 ∧ (∀ z2 : Int32, z2 = g_order (Int32.toNatClampNeg x4) → w71_wp (fun r26 v3 v4 => (r26 < z2 → w81_L71 (w81_L5 post k) post x1 x2 x3 x4 z2 v3 v4 g_rankOf g_order g_sizes) ∧ (¬ r26 < z2 → vp_in z2 4096 ∧ (vp_in x3 4096 ∧ (((g_sizes (Int32.toNatClampNeg z2)) ≤ (g_sizes (Int32.toNatClampNeg x3)) → w81_L71 (w81_L5 post k) post x1 x2 x3 x4 z2 v3 v4 g_rankOf g_order g_sizes) ∧ (¬ (g_sizes (Int32.toNatClampNeg z2)) ≤ (g_sizes (Int32.toNatClampNeg x3)) → w72_wp (fun r52 v5 v6 v7 => (r52 = 0 → w81_L71 (w81_L5 post k) post x1 x2 x3 x4 z2 v5 v4 v6 g_order v7) ∧ (¬ r52 = 0 → w72_wp (fun r62 v8 v9 v10 => (r62 = 0 → w81_L71 (w81_L5 post k) post x1 x2 x3 x4 z2 v8 v4 v9 g_order v10) ∧ (¬ r62 = 0 → w81_L71 (w81_L5 post k) post x1 x2 z2 x4 z2 v8 v4 v9 g_order v10)) x2 z2 v5 v6 v7)) x1 z2 v3 g_rankOf g_sizes))))) x1 iv g_elements))
def w81_wp (post : Int32 → (Nat → Int32) → (Nat → Int32) → (Nat → Int32) → (Nat → Int32) → (Nat → Int32) → Prop) (a1x : Int32) (a2x : Int32) (iv : Nat → Int32) (g_elements : Nat → Int32) (g_rankOf : Nat → Int32) (g_order : Nat → Int32) (g_sizes : Nat → Int32) : Prop := ∃ j5, w81_L5 post j5 a1x a2x 0 0 iv g_elements g_rankOf g_order g_sizes
set_option maxHeartbeats 8000000 in
set_option maxRecDepth 100000 in
theorem w81_met (l : Launch) (dC : Nat → ClassId) (dI : Nat → Nat → Nat) (sz : Nat) (h0 : Nat) (rf : Nat → Nat) (c_elements : ClassId) (c_rankOf : ClassId) (c_order : ClassId) (c_sizes : ClassId) (a1x : Int32) (a2x : Int32) (iv : Nat → Int32) (g_elements : Nat → Int32) (g_rankOf : Nat → Int32) (g_order : Nat → Int32) (g_sizes : Nat → Int32) (post : Int32 → (Nat → Int32) → (Nat → Int32) → (Nat → Int32) → (Nat → Int32) → (Nat → Int32) → Prop) (hw : w81_wp post a1x a2x iv g_elements g_rankOf g_order g_sizes) : Met l px_y81 px_s81 ({ frames := 2, cells := 0, slots := 0, locals := 44 }) (va_Pc [.ref h0, .int a1x, .int a2x] (fun U => U.heap.size = sz ∧ va_P (dC, dI) vwCl [(h0, .inr (8, px_mf rf iv)), (rf 19, .inl (c_elements, 26, .inl g_elements)), (rf 25, .inl (c_rankOf, 106496, .inl g_rankOf)), (rf 27, .inl (c_order, 4096, .inl g_order)), (rf 28, .inl (c_sizes, 4096, .inl g_sizes))] U.heap ∧ va_K (dC, dI) vwCl [(c_elements, .int), (c_rankOf, .byte), (c_order, .int), (c_sizes, .int)] U ∧ va_D (fun _ => True) [(h0, .inr (8, px_mf rf iv)), (rf 19, .inl (c_elements, 26, .inl g_elements)), (rf 25, .inl (c_rankOf, 106496, .inl g_rankOf)), (rf 27, .inl (c_order, 4096, .inl g_order)), (rf 28, .inl (c_sizes, 4096, .inl g_sizes))] ∧ px_N U)) (va_Qi (fun (r : Int32) (u : (Nat → Int32) × (Nat → Int32) × (Nat → Int32) × (Nat → Int32) × (Nat → Int32)) => post r u.1 u.2.1 u.2.2.1 u.2.2.2.1 u.2.2.2.2) (fun (u : (Nat → Int32) × (Nat → Int32) × (Nat → Int32) × (Nat → Int32) × (Nat → Int32)) (t : State) => va_P (dC, dI) vwCl [(h0, .inr (8, px_mf rf u.1)), (rf 19, .inl (c_elements, 26, .inl u.2.1)), (rf 25, .inl (c_rankOf, 106496, .inl u.2.2.1)), (rf 27, .inl (c_order, 4096, .inl u.2.2.2.1)), (rf 28, .inl (c_sizes, 4096, .inl u.2.2.2.2))] t.heap ∧ va_K (dC, dI) vwCl [(c_elements, .int), (c_rankOf, .byte), (c_order, .int), (c_sizes, .int)] t ∧ va_D (va_A [(h0, .inr (8, px_mf rf iv)), (rf 19, .inl (c_elements, 26, .inl g_elements)), (rf 25, .inl (c_rankOf, 106496, .inl g_rankOf)), (rf 27, .inl (c_order, 4096, .inl g_order)), (rf 28, .inl (c_sizes, 4096, .inl g_sizes))] sz) [(h0, .inr (8, px_mf rf u.1)), (rf 19, .inl (c_elements, 26, .inl u.2.1)), (rf 25, .inl (c_rankOf, 106496, .inl u.2.2.1)), (rf 27, .inl (c_order, 4096, .inl u.2.2.2.1)), (rf 28, .inl (c_sizes, 4096, .inl u.2.2.2.2))]) (va_A [(h0, .inr (8, px_mf rf iv)), (rf 19, .inl (c_elements, 26, .inl g_elements)), (rf 25, .inl (c_rankOf, 106496, .inl g_rankOf)), (rf 27, .inl (c_order, 4096, .inl g_order)), (rf 28, .inl (c_sizes, 4096, .inl g_sizes))] sz)) 0 0 (va_A [(h0, .inr (8, px_mf rf iv)), (rf 19, .inl (c_elements, 26, .inl g_elements)), (rf 25, .inl (c_rankOf, 106496, .inl g_rankOf)), (rf 27, .inl (c_order, 4096, .inl g_order)), (rf 28, .inl (c_sizes, 4096, .inl g_sizes))] sz) := by
  refine Met.ofW (cc := prog_15_method_36_code) (maxL := 6) (ret := (some .int)) (by decide) rfl ?_
  intro p e s m args below meth c s₁ B hml hv
  obtain ⟨rfl, hsz, hP, hK, hD0, hN⟩ := hv
  have hx := B.exec
  have hb := B.bytes
  have hr := B.returns
  have htw : ∀ w ∈ px_all, w.before _ s = true := fun w h => atoms_spec (ws := px_s81) B.pre w (List.mem_cons_of_mem _ h)
  have hown : s.vm.findClass "MatroidDeskModel" = some m.cls := findClass_of_methodNamed B.named
  have hlocks := B.notSynchronized
  subst hsz
  have hD := hD0.self (sz := s.heap.size)
  generalize hAe : va_A [(h0, .inr (8, px_mf rf iv)), (rf 19, .inl (c_elements, 26, .inl g_elements)), (rf 25, .inl (c_rankOf, 106496, .inl g_rankOf)), (rf 27, .inl (c_order, 4096, .inl g_order)), (rf 28, .inl (c_sizes, 4096, .inl g_sizes))] s.heap.size = A at hD ⊢
  have hA : ∀ q : Nat, s.heap.size ≤ q → A q := fun q h => by rw [← hAe]; exact Or.inr h
  have hS : va_S A s.heap s.heap [] := va_S.rf
  have hP : va_P (dC, dI) vwCl [(h0, .inr (8, px_mf rf iv)), (rf 19, .inl (c_elements, 26, .inl g_elements)), (rf 25, .inl (c_rankOf, 106496, .inl g_rankOf)), (rf 27, .inl (c_order, 4096, .inl g_order)), (rf 28, .inl (c_sizes, 4096, .inl g_sizes))] s.heap := hP
  have hl := lv_entry ([.ref h0, .int a1x, .int a2x]) (n := 6) (Nat.le_of_ble_eq_true rfl)
  rw [lg_entry_eq]
  generalize (lg_sl ([.ref h0, .int a1x, .int a2x]) ++ List.replicate (6 - (lg_sl ([.ref h0, .int a1x, .int a2x])).length) Slot.unset).toArray = ls at hl ⊢
  have hl : lv_has ls 6 [(0, .ref h0), (1, .int a1x), (2, .int a2x)] := hl
  generalize hQ : MQ _ _ _ _ _ _ _ = Q
  have S5 : ∀ (k5 : Nat) (x1 : Int32) (x2 : Int32) (x3 : Int32) (x4 : Int32) (iv : Nat → Int32) (g_elements : Nat → Int32) (g_rankOf : Nat → Int32) (g_order : Nat → Int32) (g_sizes : Nat → Int32) (H : Heap) (locs : List Loc) (ls : Array Slot), va_P (dC, dI) vwCl [(h0, .inr (8, px_mf rf iv)), (rf 19, .inl (c_elements, 26, .inl g_elements)), (rf 25, .inl (c_rankOf, 106496, .inl g_rankOf)), (rf 27, .inl (c_order, 4096, .inl g_order)), (rf 28, .inl (c_sizes, 4096, .inl g_sizes))] H → va_D A [(h0, .inr (8, px_mf rf iv)), (rf 19, .inl (c_elements, 26, .inl g_elements)), (rf 25, .inl (c_rankOf, 106496, .inl g_rankOf)), (rf 27, .inl (c_order, 4096, .inl g_order)), (rf 28, .inl (c_sizes, 4096, .inl g_sizes))] → va_S A s.heap H locs → lv_has ls 6 [(0, .ref h0), (1, .int x1), (2, .int x2), (3, .int x3), (4, .int x4)] → w81_L5 post k5 x1 x2 x3 x4 iv g_elements g_rankOf g_order g_sizes → W p l e (headSpec px_s81 ({ frames := 2, cells := 0, slots := 0, locals := 44 })).room s m ([.ref h0, .int a1x, .int a2x]).toArray below meth c H locs 0 0 Q (F0 m 5 ls []) := by
    intro k5
    induction k5 with
    | zero => intro x1 x2 x3 x4 iv g_elements g_rankOf g_order g_sizes H locs ls hP hD hS hl hw; exact False.elim hw
    | succ k5 ih5 =>
      have S71 : ∀ (x1 : Int32) (x2 : Int32) (x3 : Int32) (x4 : Int32) (x5 : Int32) (iv : Nat → Int32) (g_elements : Nat → Int32) (g_rankOf : Nat → Int32) (g_order : Nat → Int32) (g_sizes : Nat → Int32) (H : Heap) (locs : List Loc) (ls : Array Slot), va_P (dC, dI) vwCl [(h0, .inr (8, px_mf rf iv)), (rf 19, .inl (c_elements, 26, .inl g_elements)), (rf 25, .inl (c_rankOf, 106496, .inl g_rankOf)), (rf 27, .inl (c_order, 4096, .inl g_order)), (rf 28, .inl (c_sizes, 4096, .inl g_sizes))] H → va_D A [(h0, .inr (8, px_mf rf iv)), (rf 19, .inl (c_elements, 26, .inl g_elements)), (rf 25, .inl (c_rankOf, 106496, .inl g_rankOf)), (rf 27, .inl (c_order, 4096, .inl g_order)), (rf 28, .inl (c_sizes, 4096, .inl g_sizes))] → va_S A s.heap H locs → lv_has ls 6 [(0, .ref h0), (1, .int x1), (2, .int x2), (3, .int x3), (4, .int x4), (5, .int x5)] → w81_L71 (w81_L5 post k5) post x1 x2 x3 x4 x5 iv g_elements g_rankOf g_order g_sizes → W p l e (headSpec px_s81 ({ frames := 2, cells := 0, slots := 0, locals := 44 })).room s m ([.ref h0, .int a1x, .int a2x]).toArray below meth c H locs 0 0 Q (F0 m 71 ls []) := by
        intro x1 x2 x3 x4 x5 iv g_elements g_rankOf g_order g_sizes H locs ls hP hD hS hl hw
        unfold w81_L71 at hw
        obtain ⟨z1, ez1⟩ : ∃ y : Int32, y = x4 + 1 := ⟨_, rfl⟩
        have hw := hw z1 ez1
        refine lv_iinc (v := z1) (lv' := [(4, .int z1), (0, .ref h0), (1, .int x1), (2, .int x2), (3, .int x3), (5, .int x5)]) hx hb px_d81_71 hl (k := 4) rfl (by rw [ez1]; rfl) (by decide) rfl (fun ls hl => ?_)
        refine lv_goto (tgt := 5) hx hb px_d81_74 (by decide) ?_
        exact ih5 x1 x2 x3 z1 iv g_elements g_rankOf g_order g_sizes H locs ls hP hD hS (lv_sub hl [1, 2, 3, 4, 0] rfl) hw
      intro x1 x2 x3 x4 iv g_elements g_rankOf g_order g_sizes H locs ls hP hD hS hl hw
      unfold w81_L5 at hw
      refine lv_iload hx hb px_d81_5 (lv_at hl 4 rfl) ?_
      refine lv_sipush (v := 4096) hx hb px_d81_7 (by decide) ?_
      refine lv_icmp_ge (tgt := 77) hx hb px_d81_10 (by decide) (fun c10 => ?_) (fun c10 => ?_)
      · have hw := hw.1 c10
        refine lv_iload_n hx hb px_d81_77 rfl (lv_at hl 3 rfl) ?_
        rw [← hQ]
        exact W.iret (v := x3) hx hb hr (fun t ht hW => ⟨⟨x3, (iv, g_elements, g_rankOf, g_order, g_sizes), rfl, hw, by rw [ht]; exact hP, va_K.moved hW.alike hK, hD⟩, hS.F ht⟩) hS.2.2 px_d81_78
      · have hw := hw.2 c10
        refine lv_aload_n hx hb px_d81_13 rfl (lv_at hl 0 rfl) ?_
        refine va_get (D := (dC, dI)) (ci := 8) (v := .ref (rf 27)) (C := "MatroidDeskModel") (T := px_T8) (N := 53) hx hb htw px_in8 hown hK hP 0 rfl rfl 27 (by decide) (htw _ px_w512) (fun _ h9 => h9) rfl px_d81_14 ?_
        refine lv_iload hx hb px_d81_17 (lv_at hl 4 rfl) ?_
        obtain ⟨hi19, hw⟩ := hw
        refine va_iald hx hb hK hP 3 2 rfl rfl hi19 px_d81_19 ?_
        refine lv_topi (fun z2 ez2 => ?_)
        have hw := hw z2 ez2
        refine lv_istore (lv' := [(5, .int z2), (0, .ref h0), (1, .int x1), (2, .int x2), (3, .int x3), (4, .int x4)]) hx hb px_d81_20 hl (by decide) rfl (fun ls hl => ?_)
        refine lv_iload hx hb px_d81_22 (lv_at hl 0 rfl) ?_
        refine lv_aload_n hx hb px_d81_24 rfl (lv_at hl 1 rfl) ?_
        refine lv_iload_n hx hb px_d81_25 rfl (lv_at hl 2 rfl) ?_
        have hPc := hP.sub (ws' := [(h0, .inr (8, px_mf rf iv)), (rf 19, .inl (c_elements, 26, .inl g_elements))]) [0, 1] rfl
        have hDc := hD.sub (ws' := [(h0, .inr (8, px_mf rf iv)), (rf 19, .inl (c_elements, 26, .inl g_elements))]) [0, 1] (by decide) rfl
        have hKc := hK.sub (tys' := [(c_elements, .int)]) [0] rfl
        have hFc := va_free (wc := [(h0, .inr (8, px_mf rf iv)), (rf 19, .inl (c_elements, 26, .inl g_elements))]) hD hS hA [0, 1] rfl
        refine va_calli (va_runV (As := [.int x1]) (rest := [.int z2]) ⟨hx, hb, hml, hown, htw⟩ (w71_met l dC dI H.size h0 rf c_elements x1 iv g_elements _ hw) (cwV 1 htw (px_gv px_w565 px_w556 px_w557 px_w94 px_g71) rfl rfl rfl (by decide +kernel) ⟨Nat.le_of_ble_eq_true rfl, Nat.le_of_ble_eq_true rfl⟩) ⟨fun a U g mk q => by obtain ⟨q0, q1, qP, qK, qD, qN⟩ := q; exact ⟨q0, q1, qP, va_K.moved (u := U) (U := U.calling g mk a) (Vm.Alike.refl U.vm) qK, qD, qN.same rfl⟩, va_recv hK hP (ci := 8) (q0 := 0) rfl rfl, fun U hU hW => ⟨rfl, by rw [hU], by rw [hU]; exact hPc, va_K.moved hW.alike hKc, hDc.weaken (fun _ _ _ _ => trivial), hN.warm hW⟩⟩ rfl rfl hl.1 rfl (lv_room (Nat.le_of_ble_eq_true rfl)) px_d81_26 ⟨(Nat.le_of_ble_eq_true rfl), (Nat.le_of_ble_eq_true rfl)⟩) hS (fun q _ h => hFc q h) hFc (fun r26 u t H1 locs ht hvm hw hB hz1 hk1 hS => ?_)
        obtain ⟨v3, v4⟩ := u
        obtain ⟨hP1, hK1, hD1⟩ := hB
        rw [ht] at hP1
        have hK1 := va_K.moved hvm.symm hK1
        obtain ⟨hP, hD⟩ := va_join (wr := [(rf 25, .inl (c_rankOf, 106496, .inl g_rankOf)), (rf 27, .inl (c_order, 4096, .inl g_order)), (rf 28, .inl (c_sizes, 4096, .inl g_sizes))]) (w1 := [(h0, .inr (8, px_mf rf v3)), (rf 19, .inl (c_elements, 26, .inl v4))]) hP hD [0, 1] [2, 3, 4] rfl rfl (by decide) (by decide) hk1 hFc hP1 hD1
        generalize H1 = H at hP hS ⊢
        have hP : va_P (dC, dI) vwCl [(rf 25, .inl (c_rankOf, 106496, .inl g_rankOf)), (rf 27, .inl (c_order, 4096, .inl g_order)), (rf 28, .inl (c_sizes, 4096, .inl g_sizes)), (h0, .inr (8, px_mf rf v3)), (rf 19, .inl (c_elements, 26, .inl v4))] H := hP
        have hD : va_D A [(rf 25, .inl (c_rankOf, 106496, .inl g_rankOf)), (rf 27, .inl (c_order, 4096, .inl g_order)), (rf 28, .inl (c_sizes, 4096, .inl g_sizes)), (h0, .inr (8, px_mf rf v3)), (rf 19, .inl (c_elements, 26, .inl v4))] := hD
        have hP := hP.sub (ws' := [(h0, .inr (8, px_mf rf v3)), (rf 19, .inl (c_elements, 26, .inl v4)), (rf 25, .inl (c_rankOf, 106496, .inl g_rankOf)), (rf 27, .inl (c_order, 4096, .inl g_order)), (rf 28, .inl (c_sizes, 4096, .inl g_sizes))]) [3, 4, 0, 1, 2] rfl
        have hD := hD.sub (ws' := [(h0, .inr (8, px_mf rf v3)), (rf 19, .inl (c_elements, 26, .inl v4)), (rf 25, .inl (c_rankOf, 106496, .inl g_rankOf)), (rf 27, .inl (c_order, 4096, .inl g_order)), (rf 28, .inl (c_sizes, 4096, .inl g_sizes))]) [3, 4, 0, 1, 2] (by decide) rfl
        refine lv_icmp_gt (tgt := 71) hx hb px_d81_29 (by decide) (fun c29 => ?_) (fun c29 => ?_)
        · have hw := hw.1 c29
          exact S71 x1 x2 x3 x4 z2 v3 v4 g_rankOf g_order g_sizes H locs ls hP hD hS (lv_sub hl [1, 2, 3, 4, 5, 0] rfl) hw
        · have hw := hw.2 c29
          refine lv_aload_n hx hb px_d81_32 rfl (lv_at hl 1 rfl) ?_
          refine va_get (D := (dC, dI)) (ci := 8) (v := .ref (rf 28)) (C := "MatroidDeskModel") (T := px_T8) (N := 53) hx hb htw px_in8 hown hK hP 0 rfl rfl 28 (by decide) (htw _ px_w513) (fun _ h9 => h9) rfl px_d81_33 ?_
          refine lv_iload hx hb px_d81_36 (lv_at hl 0 rfl) ?_
          obtain ⟨hi38, hw⟩ := hw
          refine va_iald hx hb hK hP 4 3 rfl rfl hi38 px_d81_38 ?_
          refine lv_aload_n hx hb px_d81_39 rfl (lv_at hl 1 rfl) ?_
          refine va_get (D := (dC, dI)) (ci := 8) (v := .ref (rf 28)) (C := "MatroidDeskModel") (T := px_T8) (N := 53) hx hb htw px_in8 hown hK hP 0 rfl rfl 28 (by decide) (htw _ px_w513) (fun _ h9 => h9) rfl px_d81_40 ?_
          refine lv_iload_n hx hb px_d81_43 rfl (lv_at hl 4 rfl) ?_
          obtain ⟨hi44, hw⟩ := hw
          refine va_iald hx hb hK hP 4 3 rfl rfl hi44 px_d81_44 ?_
          refine lv_icmp_le (tgt := 71) hx hb px_d81_45 (by decide) (fun c45 => ?_) (fun c45 => ?_)
          · have hw := hw.1 c45
            exact S71 x1 x2 x3 x4 z2 v3 v4 g_rankOf g_order g_sizes H locs ls hP hD hS (lv_sub hl [1, 2, 3, 4, 5, 0] rfl) hw
          · have hw := hw.2 c45
            refine lv_aload_n hx hb px_d81_48 rfl (lv_at hl 1 rfl) ?_
            refine lv_iload_n hx hb px_d81_49 rfl (lv_at hl 2 rfl) ?_
            refine lv_iload hx hb px_d81_50 (lv_at hl 0 rfl) ?_
            have hPc := hP.sub (ws' := [(h0, .inr (8, px_mf rf v3)), (rf 25, .inl (c_rankOf, 106496, .inl g_rankOf)), (rf 28, .inl (c_sizes, 4096, .inl g_sizes))]) [0, 2, 4] rfl
            have hDc := hD.sub (ws' := [(h0, .inr (8, px_mf rf v3)), (rf 25, .inl (c_rankOf, 106496, .inl g_rankOf)), (rf 28, .inl (c_sizes, 4096, .inl g_sizes))]) [0, 2, 4] (by decide) rfl
            have hKc := hK.sub (tys' := [(c_rankOf, .byte), (c_sizes, .int)]) [1, 3] rfl
            have hFc := va_free (wc := [(h0, .inr (8, px_mf rf v3)), (rf 25, .inl (c_rankOf, 106496, .inl g_rankOf)), (rf 28, .inl (c_sizes, 4096, .inl g_sizes))]) hD hS hA [0, 2, 4] rfl
            refine va_calli (va_runV (As := [.int x1, .int z2]) (rest := []) ⟨hx, hb, hml, hown, htw⟩ (w72_met l dC dI H.size h0 rf c_rankOf c_sizes x1 z2 v3 g_rankOf g_sizes _ hw) (cwV 2 htw (px_gv px_w576 px_w559 px_w560 px_w94 px_g72) rfl rfl rfl (by decide +kernel) ⟨Nat.le_of_ble_eq_true rfl, Nat.le_of_ble_eq_true rfl⟩) ⟨fun a U g mk q => by obtain ⟨q0, q1, qP, qK, qD, qN⟩ := q; exact ⟨q0, q1, qP, va_K.moved (u := U) (U := U.calling g mk a) (Vm.Alike.refl U.vm) qK, qD, qN.same rfl⟩, va_recv hK hP (ci := 8) (q0 := 0) rfl rfl, fun U hU hW => ⟨rfl, by rw [hU], by rw [hU]; exact hPc, va_K.moved hW.alike hKc, hDc.weaken (fun _ _ _ _ => trivial), hN.warm hW⟩⟩ rfl rfl hl.1 rfl (lv_room (Nat.le_of_ble_eq_true rfl)) px_d81_52 ⟨(Nat.le_of_ble_eq_true rfl), (Nat.le_of_ble_eq_true rfl)⟩) hS (fun q _ h => hFc q h) hFc (fun r52 u t H1 locs ht hvm hw hB hz1 hk1 hS => ?_)
            obtain ⟨v5, v6, v7⟩ := u
            obtain ⟨hP1, hK1, hD1⟩ := hB
            rw [ht] at hP1
            have hK1 := va_K.moved hvm.symm hK1
            obtain ⟨hP, hD⟩ := va_join (wr := [(rf 19, .inl (c_elements, 26, .inl v4)), (rf 27, .inl (c_order, 4096, .inl g_order))]) (w1 := [(h0, .inr (8, px_mf rf v5)), (rf 25, .inl (c_rankOf, 106496, .inl v6)), (rf 28, .inl (c_sizes, 4096, .inl v7))]) hP hD [0, 2, 4] [1, 3] rfl rfl (by decide) (by decide) hk1 hFc hP1 hD1
            generalize H1 = H at hP hS ⊢
            have hP : va_P (dC, dI) vwCl [(rf 19, .inl (c_elements, 26, .inl v4)), (rf 27, .inl (c_order, 4096, .inl g_order)), (h0, .inr (8, px_mf rf v5)), (rf 25, .inl (c_rankOf, 106496, .inl v6)), (rf 28, .inl (c_sizes, 4096, .inl v7))] H := hP
            have hD : va_D A [(rf 19, .inl (c_elements, 26, .inl v4)), (rf 27, .inl (c_order, 4096, .inl g_order)), (h0, .inr (8, px_mf rf v5)), (rf 25, .inl (c_rankOf, 106496, .inl v6)), (rf 28, .inl (c_sizes, 4096, .inl v7))] := hD
            have hP := hP.sub (ws' := [(h0, .inr (8, px_mf rf v5)), (rf 19, .inl (c_elements, 26, .inl v4)), (rf 25, .inl (c_rankOf, 106496, .inl v6)), (rf 27, .inl (c_order, 4096, .inl g_order)), (rf 28, .inl (c_sizes, 4096, .inl v7))]) [2, 0, 3, 1, 4] rfl
            have hD := hD.sub (ws' := [(h0, .inr (8, px_mf rf v5)), (rf 19, .inl (c_elements, 26, .inl v4)), (rf 25, .inl (c_rankOf, 106496, .inl v6)), (rf 27, .inl (c_order, 4096, .inl g_order)), (rf 28, .inl (c_sizes, 4096, .inl v7))]) [2, 0, 3, 1, 4] (by decide) rfl
            refine lv_if_eq (tgt := 71) hx hb px_d81_55 (by decide) (fun c55 => ?_) (fun c55 => ?_)
            · have hw := hw.1 c55
              exact S71 x1 x2 x3 x4 z2 v5 v4 v6 g_order v7 H locs ls hP hD hS (lv_sub hl [1, 2, 3, 4, 5, 0] rfl) hw
            · have hw := hw.2 c55
              refine lv_aload_n hx hb px_d81_58 rfl (lv_at hl 1 rfl) ?_
              refine lv_iload_n hx hb px_d81_59 rfl (lv_at hl 3 rfl) ?_
              refine lv_iload hx hb px_d81_60 (lv_at hl 0 rfl) ?_
              have hPc := hP.sub (ws' := [(h0, .inr (8, px_mf rf v5)), (rf 25, .inl (c_rankOf, 106496, .inl v6)), (rf 28, .inl (c_sizes, 4096, .inl v7))]) [0, 2, 4] rfl
              have hDc := hD.sub (ws' := [(h0, .inr (8, px_mf rf v5)), (rf 25, .inl (c_rankOf, 106496, .inl v6)), (rf 28, .inl (c_sizes, 4096, .inl v7))]) [0, 2, 4] (by decide) rfl
              have hKc := hK.sub (tys' := [(c_rankOf, .byte), (c_sizes, .int)]) [1, 3] rfl
              have hFc := va_free (wc := [(h0, .inr (8, px_mf rf v5)), (rf 25, .inl (c_rankOf, 106496, .inl v6)), (rf 28, .inl (c_sizes, 4096, .inl v7))]) hD hS hA [0, 2, 4] rfl
              refine va_calli (va_runV (As := [.int x2, .int z2]) (rest := []) ⟨hx, hb, hml, hown, htw⟩ (w72_met l dC dI H.size h0 rf c_rankOf c_sizes x2 z2 v5 v6 v7 _ hw) (cwV 2 htw (px_gv px_w576 px_w559 px_w560 px_w94 px_g72) rfl rfl rfl (by decide +kernel) ⟨Nat.le_of_ble_eq_true rfl, Nat.le_of_ble_eq_true rfl⟩) ⟨fun a U g mk q => by obtain ⟨q0, q1, qP, qK, qD, qN⟩ := q; exact ⟨q0, q1, qP, va_K.moved (u := U) (U := U.calling g mk a) (Vm.Alike.refl U.vm) qK, qD, qN.same rfl⟩, va_recv hK hP (ci := 8) (q0 := 0) rfl rfl, fun U hU hW => ⟨rfl, by rw [hU], by rw [hU]; exact hPc, va_K.moved hW.alike hKc, hDc.weaken (fun _ _ _ _ => trivial), hN.warm hW⟩⟩ rfl rfl hl.1 rfl (lv_room (Nat.le_of_ble_eq_true rfl)) px_d81_62 ⟨(Nat.le_of_ble_eq_true rfl), (Nat.le_of_ble_eq_true rfl)⟩) hS (fun q _ h => hFc q h) hFc (fun r62 u t H1 locs ht hvm hw hB hz1 hk1 hS => ?_)
              obtain ⟨v8, v9, v10⟩ := u
              obtain ⟨hP1, hK1, hD1⟩ := hB
              rw [ht] at hP1
              have hK1 := va_K.moved hvm.symm hK1
              obtain ⟨hP, hD⟩ := va_join (wr := [(rf 19, .inl (c_elements, 26, .inl v4)), (rf 27, .inl (c_order, 4096, .inl g_order))]) (w1 := [(h0, .inr (8, px_mf rf v8)), (rf 25, .inl (c_rankOf, 106496, .inl v9)), (rf 28, .inl (c_sizes, 4096, .inl v10))]) hP hD [0, 2, 4] [1, 3] rfl rfl (by decide) (by decide) hk1 hFc hP1 hD1
              generalize H1 = H at hP hS ⊢
              have hP : va_P (dC, dI) vwCl [(rf 19, .inl (c_elements, 26, .inl v4)), (rf 27, .inl (c_order, 4096, .inl g_order)), (h0, .inr (8, px_mf rf v8)), (rf 25, .inl (c_rankOf, 106496, .inl v9)), (rf 28, .inl (c_sizes, 4096, .inl v10))] H := hP
              have hD : va_D A [(rf 19, .inl (c_elements, 26, .inl v4)), (rf 27, .inl (c_order, 4096, .inl g_order)), (h0, .inr (8, px_mf rf v8)), (rf 25, .inl (c_rankOf, 106496, .inl v9)), (rf 28, .inl (c_sizes, 4096, .inl v10))] := hD
              have hP := hP.sub (ws' := [(h0, .inr (8, px_mf rf v8)), (rf 19, .inl (c_elements, 26, .inl v4)), (rf 25, .inl (c_rankOf, 106496, .inl v9)), (rf 27, .inl (c_order, 4096, .inl g_order)), (rf 28, .inl (c_sizes, 4096, .inl v10))]) [2, 0, 3, 1, 4] rfl
              have hD := hD.sub (ws' := [(h0, .inr (8, px_mf rf v8)), (rf 19, .inl (c_elements, 26, .inl v4)), (rf 25, .inl (c_rankOf, 106496, .inl v9)), (rf 27, .inl (c_order, 4096, .inl g_order)), (rf 28, .inl (c_sizes, 4096, .inl v10))]) [2, 0, 3, 1, 4] (by decide) rfl
              refine lv_if_eq (tgt := 71) hx hb px_d81_65 (by decide) (fun c65 => ?_) (fun c65 => ?_)
              · have hw := hw.1 c65
                exact S71 x1 x2 x3 x4 z2 v8 v4 v9 g_order v10 H locs ls hP hD hS (lv_sub hl [1, 2, 3, 4, 5, 0] rfl) hw
              · have hw := hw.2 c65
                refine lv_iload hx hb px_d81_68 (lv_at hl 0 rfl) ?_
                refine lv_istore_n (lv' := [(3, .int z2), (5, .int z2), (0, .ref h0), (1, .int x1), (2, .int x2), (4, .int x4)]) hx hb px_d81_70 rfl hl (by decide) rfl (fun ls hl => ?_)
                exact S71 x1 x2 z2 x4 z2 v8 v4 v9 g_order v10 H locs ls hP hD hS (lv_sub hl [2, 3, 4, 0, 5, 1] rfl) hw
  unfold w81_wp at hw
  have hS0 := hS
  obtain ⟨H, hH9⟩ : ∃ z, z = s.heap := ⟨_, rfl⟩
  have hP : va_P (dC, dI) vwCl [(h0, .inr (8, px_mf rf iv)), (rf 19, .inl (c_elements, 26, .inl g_elements)), (rf 25, .inl (c_rankOf, 106496, .inl g_rankOf)), (rf 27, .inl (c_order, 4096, .inl g_order)), (rf 28, .inl (c_sizes, 4096, .inl g_sizes))] H := by rw [hH9]; exact hP
  obtain ⟨locs, hlo9⟩ : ∃ z : List Loc, z = [] := ⟨_, rfl⟩
  have hS : va_S A s.heap H locs := by rw [hH9, hlo9]; exact hS
  suffices hG : W p l e (headSpec px_s81 ({ frames := 2, cells := 0, slots := 0, locals := 44 })).room s m ([.ref h0, .int a1x, .int a2x]).toArray below meth c H locs 0 0 Q (F0 m 0 ls []) by rw [hH9, hlo9] at hG; exact hG
  refine lv_iconst (v := 0) hx hb px_d81_0 (by decide) ?_
  refine lv_istore_n (lv' := [(3, .int 0), (0, .ref h0), (1, .int a1x), (2, .int a2x)]) hx hb px_d81_1 rfl hl (by decide) rfl (fun ls hl => ?_)
  refine lv_iconst (v := 0) hx hb px_d81_2 (by decide) ?_
  refine lv_istore (lv' := [(4, .int 0), (3, .int 0), (0, .ref h0), (1, .int a1x), (2, .int a2x)]) hx hb px_d81_3 hl (by decide) rfl (fun ls hl => ?_)
  obtain ⟨k9, hw⟩ := hw
  exact S5 k9 a1x a2x 0 0 iv g_elements g_rankOf g_order g_sizes H locs ls hP hD hS (lv_sub hl [2, 3, 4, 1, 0] rfl) hw

