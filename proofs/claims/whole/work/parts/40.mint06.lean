/-! MatroidDeskModel.member(III)I -/
def w123_L28 (post : Int32 → (Nat → Int32) → (Nat → Int32) → (Nat → Int32) → (Nat → Int32) → (Nat → Int32) → (Nat → Int32) → (Nat → Int32) → Prop) (x1 : Int32) (x2 : Int32) (x3 : Int32) (y0 : Int32) (iv : Nat → Int32) (g_there : Nat → Int32) (g_elements : Nat → Int32) (g_ranks : Nat → Int32) (g_rankOf : Nat → Int32) (g_order : Nat → Int32) (g_sizes : Nat → Int32) : Prop := post y0 iv g_there g_elements g_ranks g_rankOf g_order g_sizes
def w123_L27 (post : Int32 → (Nat → Int32) → (Nat → Int32) → (Nat → Int32) → (Nat → Int32) → (Nat → Int32) → (Nat → Int32) → (Nat → Int32) → Prop) (x1 : Int32) (x2 : Int32) (x3 : Int32) (iv : Nat → Int32) (g_there : Nat → Int32) (g_elements : Nat → Int32) (g_ranks : Nat → Int32) (g_rankOf : Nat → Int32) (g_order : Nat → Int32) (g_sizes : Nat → Int32) : Prop := w123_L28 post x1 x2 x3 (-1) iv g_there g_elements g_ranks g_rankOf g_order g_sizes
def w123_wp (post : Int32 → (Nat → Int32) → (Nat → Int32) → (Nat → Int32) → (Nat → Int32) → (Nat → Int32) → (Nat → Int32) → (Nat → Int32) → Prop) (a1x : Int32) (a2x : Int32) (a3x : Int32) (iv : Nat → Int32) (g_there : Nat → Int32) (g_elements : Nat → Int32) (g_ranks : Nat → Int32) (g_rankOf : Nat → Int32) (g_order : Nat → Int32) (g_sizes : Nat → Int32) : Prop := w118_wp (fun r2 v1 v2 => (r2 = 0 → w123_L27 post a1x a2x a3x v1 v2 g_elements g_ranks g_rankOf g_order g_sizes) ∧ (¬ r2 = 0 → (a2x < 0 → w123_L27 post a1x a2x a3x v1 v2 g_elements g_ranks g_rankOf g_order g_sizes) ∧ (¬ a2x < 0 → (3 < a2x → w123_L27 post a1x a2x a3x v1 v2 g_elements g_ranks g_rankOf g_order g_sizes) ∧ (¬ 3 < a2x → w78_wp (fun r21 v3 v4 v5 v6 v7 v8 => w123_L28 post a1x a2x a3x r21 v3 v2 v4 v5 v6 v7 v8) a1x a2x a3x v1 g_elements g_ranks g_rankOf g_order g_sizes)))) a1x iv g_there
set_option maxHeartbeats 8000000 in
set_option maxRecDepth 100000 in
theorem w123_met (l : Launch) (dC : Nat → ClassId) (dI : Nat → Nat → Nat) (sz : Nat) (h0 : Nat) (rf : Nat → Nat) (c_there : ClassId) (c_elements : ClassId) (c_ranks : ClassId) (c_rankOf : ClassId) (c_order : ClassId) (c_sizes : ClassId) (a1x : Int32) (a2x : Int32) (a3x : Int32) (iv : Nat → Int32) (g_there : Nat → Int32) (g_elements : Nat → Int32) (g_ranks : Nat → Int32) (g_rankOf : Nat → Int32) (g_order : Nat → Int32) (g_sizes : Nat → Int32) (post : Int32 → (Nat → Int32) → (Nat → Int32) → (Nat → Int32) → (Nat → Int32) → (Nat → Int32) → (Nat → Int32) → (Nat → Int32) → Prop) (hw : w123_wp post a1x a2x a3x iv g_there g_elements g_ranks g_rankOf g_order g_sizes) : Met l px_y123 px_s123 ({ frames := 5, cells := 0, slots := 0, locals := 118 }) (va_Pc [.ref h0, .int a1x, .int a2x, .int a3x] (fun U => U.heap.size = sz ∧ va_P (dC, dI) vwCl [(h0, .inr (8, px_mf rf iv)), (rf 18, .inl (c_there, 26, .inl g_there)), (rf 19, .inl (c_elements, 26, .inl g_elements)), (rf 21, .inl (c_ranks, 26, .inl g_ranks)), (rf 25, .inl (c_rankOf, 106496, .inl g_rankOf)), (rf 27, .inl (c_order, 4096, .inl g_order)), (rf 28, .inl (c_sizes, 4096, .inl g_sizes))] U.heap ∧ va_K (dC, dI) vwCl [(c_there, .boolean), (c_elements, .int), (c_ranks, .int), (c_rankOf, .byte), (c_order, .int), (c_sizes, .int)] U ∧ va_D (fun _ => True) [(h0, .inr (8, px_mf rf iv)), (rf 18, .inl (c_there, 26, .inl g_there)), (rf 19, .inl (c_elements, 26, .inl g_elements)), (rf 21, .inl (c_ranks, 26, .inl g_ranks)), (rf 25, .inl (c_rankOf, 106496, .inl g_rankOf)), (rf 27, .inl (c_order, 4096, .inl g_order)), (rf 28, .inl (c_sizes, 4096, .inl g_sizes))] ∧ px_N U)) (va_Qi (fun (r : Int32) (u : (Nat → Int32) × (Nat → Int32) × (Nat → Int32) × (Nat → Int32) × (Nat → Int32) × (Nat → Int32) × (Nat → Int32)) => post r u.1 u.2.1 u.2.2.1 u.2.2.2.1 u.2.2.2.2.1 u.2.2.2.2.2.1 u.2.2.2.2.2.2) (fun (u : (Nat → Int32) × (Nat → Int32) × (Nat → Int32) × (Nat → Int32) × (Nat → Int32) × (Nat → Int32) × (Nat → Int32)) (t : State) => va_P (dC, dI) vwCl [(h0, .inr (8, px_mf rf u.1)), (rf 18, .inl (c_there, 26, .inl u.2.1)), (rf 19, .inl (c_elements, 26, .inl u.2.2.1)), (rf 21, .inl (c_ranks, 26, .inl u.2.2.2.1)), (rf 25, .inl (c_rankOf, 106496, .inl u.2.2.2.2.1)), (rf 27, .inl (c_order, 4096, .inl u.2.2.2.2.2.1)), (rf 28, .inl (c_sizes, 4096, .inl u.2.2.2.2.2.2))] t.heap ∧ va_K (dC, dI) vwCl [(c_there, .boolean), (c_elements, .int), (c_ranks, .int), (c_rankOf, .byte), (c_order, .int), (c_sizes, .int)] t ∧ va_D (va_A [(h0, .inr (8, px_mf rf iv)), (rf 18, .inl (c_there, 26, .inl g_there)), (rf 19, .inl (c_elements, 26, .inl g_elements)), (rf 21, .inl (c_ranks, 26, .inl g_ranks)), (rf 25, .inl (c_rankOf, 106496, .inl g_rankOf)), (rf 27, .inl (c_order, 4096, .inl g_order)), (rf 28, .inl (c_sizes, 4096, .inl g_sizes))] sz) [(h0, .inr (8, px_mf rf u.1)), (rf 18, .inl (c_there, 26, .inl u.2.1)), (rf 19, .inl (c_elements, 26, .inl u.2.2.1)), (rf 21, .inl (c_ranks, 26, .inl u.2.2.2.1)), (rf 25, .inl (c_rankOf, 106496, .inl u.2.2.2.2.1)), (rf 27, .inl (c_order, 4096, .inl u.2.2.2.2.2.1)), (rf 28, .inl (c_sizes, 4096, .inl u.2.2.2.2.2.2))]) (va_A [(h0, .inr (8, px_mf rf iv)), (rf 18, .inl (c_there, 26, .inl g_there)), (rf 19, .inl (c_elements, 26, .inl g_elements)), (rf 21, .inl (c_ranks, 26, .inl g_ranks)), (rf 25, .inl (c_rankOf, 106496, .inl g_rankOf)), (rf 27, .inl (c_order, 4096, .inl g_order)), (rf 28, .inl (c_sizes, 4096, .inl g_sizes))] sz)) 0 0 (va_A [(h0, .inr (8, px_mf rf iv)), (rf 18, .inl (c_there, 26, .inl g_there)), (rf 19, .inl (c_elements, 26, .inl g_elements)), (rf 21, .inl (c_ranks, 26, .inl g_ranks)), (rf 25, .inl (c_rankOf, 106496, .inl g_rankOf)), (rf 27, .inl (c_order, 4096, .inl g_order)), (rf 28, .inl (c_sizes, 4096, .inl g_sizes))] sz) := by
  refine Met.ofW (cc := prog_15_method_102_code) (maxL := 4) (ret := (some .int)) (by decide) rfl ?_
  intro p e s m args below meth c s₁ B hml hv
  obtain ⟨rfl, hsz, hP, hK, hD0, hN⟩ := hv
  have hx := B.exec
  have hb := B.bytes
  have hr := B.returns
  have htw : ∀ w ∈ px_all, w.before _ s = true := fun w h => atoms_spec (ws := px_s123) B.pre w (List.mem_cons_of_mem _ h)
  have hown : s.vm.findClass "MatroidDeskModel" = some m.cls := findClass_of_methodNamed B.named
  have hlocks := B.notSynchronized
  subst hsz
  have hD := hD0.self (sz := s.heap.size)
  generalize hAe : va_A [(h0, .inr (8, px_mf rf iv)), (rf 18, .inl (c_there, 26, .inl g_there)), (rf 19, .inl (c_elements, 26, .inl g_elements)), (rf 21, .inl (c_ranks, 26, .inl g_ranks)), (rf 25, .inl (c_rankOf, 106496, .inl g_rankOf)), (rf 27, .inl (c_order, 4096, .inl g_order)), (rf 28, .inl (c_sizes, 4096, .inl g_sizes))] s.heap.size = A at hD ⊢
  have hA : ∀ q : Nat, s.heap.size ≤ q → A q := fun q h => by rw [← hAe]; exact Or.inr h
  have hS : va_S A s.heap s.heap [] := va_S.rf
  have hP : va_P (dC, dI) vwCl [(h0, .inr (8, px_mf rf iv)), (rf 18, .inl (c_there, 26, .inl g_there)), (rf 19, .inl (c_elements, 26, .inl g_elements)), (rf 21, .inl (c_ranks, 26, .inl g_ranks)), (rf 25, .inl (c_rankOf, 106496, .inl g_rankOf)), (rf 27, .inl (c_order, 4096, .inl g_order)), (rf 28, .inl (c_sizes, 4096, .inl g_sizes))] s.heap := hP
  have hl := lv_entry ([.ref h0, .int a1x, .int a2x, .int a3x]) (n := 4) (Nat.le_of_ble_eq_true rfl)
  rw [lg_entry_eq]
  generalize (lg_sl ([.ref h0, .int a1x, .int a2x, .int a3x]) ++ List.replicate (4 - (lg_sl ([.ref h0, .int a1x, .int a2x, .int a3x])).length) Slot.unset).toArray = ls at hl ⊢
  have hl : lv_has ls 4 [(0, .ref h0), (1, .int a1x), (2, .int a2x), (3, .int a3x)] := hl
  generalize hQ : MQ _ _ _ _ _ _ _ = Q
  have S28 : ∀ (x1 : Int32) (x2 : Int32) (x3 : Int32) (y0 : Int32) (iv : Nat → Int32) (g_there : Nat → Int32) (g_elements : Nat → Int32) (g_ranks : Nat → Int32) (g_rankOf : Nat → Int32) (g_order : Nat → Int32) (g_sizes : Nat → Int32) (H : Heap) (locs : List Loc) (ls : Array Slot), va_P (dC, dI) vwCl [(h0, .inr (8, px_mf rf iv)), (rf 18, .inl (c_there, 26, .inl g_there)), (rf 19, .inl (c_elements, 26, .inl g_elements)), (rf 21, .inl (c_ranks, 26, .inl g_ranks)), (rf 25, .inl (c_rankOf, 106496, .inl g_rankOf)), (rf 27, .inl (c_order, 4096, .inl g_order)), (rf 28, .inl (c_sizes, 4096, .inl g_sizes))] H → va_D A [(h0, .inr (8, px_mf rf iv)), (rf 18, .inl (c_there, 26, .inl g_there)), (rf 19, .inl (c_elements, 26, .inl g_elements)), (rf 21, .inl (c_ranks, 26, .inl g_ranks)), (rf 25, .inl (c_rankOf, 106496, .inl g_rankOf)), (rf 27, .inl (c_order, 4096, .inl g_order)), (rf 28, .inl (c_sizes, 4096, .inl g_sizes))] → va_S A s.heap H locs → lv_has ls 4 [(0, .ref h0), (1, .int x1), (2, .int x2), (3, .int x3)] → w123_L28 post x1 x2 x3 y0 iv g_there g_elements g_ranks g_rankOf g_order g_sizes → W p l e (headSpec px_s123 ({ frames := 5, cells := 0, slots := 0, locals := 118 })).room s m ([.ref h0, .int a1x, .int a2x, .int a3x]).toArray below meth c H locs 0 0 Q (F0 m 28 ls [.int y0]) := by
    intro x1 x2 x3 y0 iv g_there g_elements g_ranks g_rankOf g_order g_sizes H locs ls hP hD hS hl hw
    unfold w123_L28 at hw
    rw [← hQ]
    exact W.iret (v := y0) hx hb hr (fun t ht hW => ⟨⟨y0, (iv, g_there, g_elements, g_ranks, g_rankOf, g_order, g_sizes), rfl, hw, by rw [ht]; exact hP, va_K.moved hW.alike hK, hD⟩, hS.F ht⟩) hS.2.2 px_d123_28
  have S27 : ∀ (x1 : Int32) (x2 : Int32) (x3 : Int32) (iv : Nat → Int32) (g_there : Nat → Int32) (g_elements : Nat → Int32) (g_ranks : Nat → Int32) (g_rankOf : Nat → Int32) (g_order : Nat → Int32) (g_sizes : Nat → Int32) (H : Heap) (locs : List Loc) (ls : Array Slot), va_P (dC, dI) vwCl [(h0, .inr (8, px_mf rf iv)), (rf 18, .inl (c_there, 26, .inl g_there)), (rf 19, .inl (c_elements, 26, .inl g_elements)), (rf 21, .inl (c_ranks, 26, .inl g_ranks)), (rf 25, .inl (c_rankOf, 106496, .inl g_rankOf)), (rf 27, .inl (c_order, 4096, .inl g_order)), (rf 28, .inl (c_sizes, 4096, .inl g_sizes))] H → va_D A [(h0, .inr (8, px_mf rf iv)), (rf 18, .inl (c_there, 26, .inl g_there)), (rf 19, .inl (c_elements, 26, .inl g_elements)), (rf 21, .inl (c_ranks, 26, .inl g_ranks)), (rf 25, .inl (c_rankOf, 106496, .inl g_rankOf)), (rf 27, .inl (c_order, 4096, .inl g_order)), (rf 28, .inl (c_sizes, 4096, .inl g_sizes))] → va_S A s.heap H locs → lv_has ls 4 [(0, .ref h0), (1, .int x1), (2, .int x2), (3, .int x3)] → w123_L27 post x1 x2 x3 iv g_there g_elements g_ranks g_rankOf g_order g_sizes → W p l e (headSpec px_s123 ({ frames := 5, cells := 0, slots := 0, locals := 118 })).room s m ([.ref h0, .int a1x, .int a2x, .int a3x]).toArray below meth c H locs 0 0 Q (F0 m 27 ls []) := by
    intro x1 x2 x3 iv g_there g_elements g_ranks g_rankOf g_order g_sizes H locs ls hP hD hS hl hw
    unfold w123_L27 at hw
    refine lv_iconst (v := (-1)) hx hb px_d123_27 (by decide) ?_
    exact S28 x1 x2 x3 (-1) iv g_there g_elements g_ranks g_rankOf g_order g_sizes H locs ls hP hD hS (lv_sub hl [0, 1, 2, 3] rfl) hw
  unfold w123_wp at hw
  have hS0 := hS
  obtain ⟨H, hH9⟩ : ∃ z, z = s.heap := ⟨_, rfl⟩
  have hP : va_P (dC, dI) vwCl [(h0, .inr (8, px_mf rf iv)), (rf 18, .inl (c_there, 26, .inl g_there)), (rf 19, .inl (c_elements, 26, .inl g_elements)), (rf 21, .inl (c_ranks, 26, .inl g_ranks)), (rf 25, .inl (c_rankOf, 106496, .inl g_rankOf)), (rf 27, .inl (c_order, 4096, .inl g_order)), (rf 28, .inl (c_sizes, 4096, .inl g_sizes))] H := by rw [hH9]; exact hP
  obtain ⟨locs, hlo9⟩ : ∃ z : List Loc, z = [] := ⟨_, rfl⟩
  have hS : va_S A s.heap H locs := by rw [hH9, hlo9]; exact hS
  suffices hG : W p l e (headSpec px_s123 ({ frames := 5, cells := 0, slots := 0, locals := 118 })).room s m ([.ref h0, .int a1x, .int a2x, .int a3x]).toArray below meth c H locs 0 0 Q (F0 m 0 ls []) by rw [hH9, hlo9] at hG; exact hG
  refine lv_aload_n hx hb px_d123_0 rfl (lv_at hl 0 rfl) ?_
  refine lv_iload_n hx hb px_d123_1 rfl (lv_at hl 1 rfl) ?_
  have hPc := hP.sub (ws' := [(h0, .inr (8, px_mf rf iv)), (rf 18, .inl (c_there, 26, .inl g_there))]) [0, 1] rfl
  have hDc := hD.sub (ws' := [(h0, .inr (8, px_mf rf iv)), (rf 18, .inl (c_there, 26, .inl g_there))]) [0, 1] (by decide) rfl
  have hKc := hK.sub (tys' := [(c_there, .boolean)]) [0] rfl
  have hFc := va_free (wc := [(h0, .inr (8, px_mf rf iv)), (rf 18, .inl (c_there, 26, .inl g_there))]) hD hS hA [0, 1] rfl
  refine va_calli (va_runV (As := [.int a1x]) (rest := []) ⟨hx, hb, hml, hown, htw⟩ (w118_met l dC dI H.size h0 rf c_there a1x iv g_there _ hw) (cwV 1 htw (px_gv px_w764 px_w759 px_w760 px_w94 px_g118) rfl rfl rfl (by decide +kernel) ⟨Nat.le_of_ble_eq_true rfl, Nat.le_of_ble_eq_true rfl⟩) ⟨fun a U g mk q => by obtain ⟨q0, q1, qP, qK, qD, qN⟩ := q; exact ⟨q0, q1, qP, va_K.moved (u := U) (U := U.calling g mk a) (Vm.Alike.refl U.vm) qK, qD, qN.same rfl⟩, va_recv hK hP (ci := 8) (q0 := 0) rfl rfl, fun U hU hW => ⟨rfl, by rw [hU], by rw [hU]; exact hPc, va_K.moved hW.alike hKc, hDc.weaken (fun _ _ _ _ => trivial), hN.warm hW⟩⟩ rfl rfl hl.1 rfl (lv_room (Nat.le_of_ble_eq_true rfl)) px_d123_2 ⟨(Nat.le_of_ble_eq_true rfl), (Nat.le_of_ble_eq_true rfl)⟩) hS (fun q _ h => hFc q h) hFc (fun r2 u t H1 locs ht hvm hw hB hz1 hk1 hS => ?_)
  obtain ⟨v1, v2⟩ := u
  obtain ⟨hP1, hK1, hD1⟩ := hB
  rw [ht] at hP1
  have hK1 := va_K.moved hvm.symm hK1
  obtain ⟨hP, hD⟩ := va_join (wr := [(rf 19, .inl (c_elements, 26, .inl g_elements)), (rf 21, .inl (c_ranks, 26, .inl g_ranks)), (rf 25, .inl (c_rankOf, 106496, .inl g_rankOf)), (rf 27, .inl (c_order, 4096, .inl g_order)), (rf 28, .inl (c_sizes, 4096, .inl g_sizes))]) (w1 := [(h0, .inr (8, px_mf rf v1)), (rf 18, .inl (c_there, 26, .inl v2))]) hP hD [0, 1] [2, 3, 4, 5, 6] rfl rfl (by decide) (by decide) hk1 hFc hP1 hD1
  generalize H1 = H at hP hS ⊢
  have hP : va_P (dC, dI) vwCl [(rf 19, .inl (c_elements, 26, .inl g_elements)), (rf 21, .inl (c_ranks, 26, .inl g_ranks)), (rf 25, .inl (c_rankOf, 106496, .inl g_rankOf)), (rf 27, .inl (c_order, 4096, .inl g_order)), (rf 28, .inl (c_sizes, 4096, .inl g_sizes)), (h0, .inr (8, px_mf rf v1)), (rf 18, .inl (c_there, 26, .inl v2))] H := hP
  have hD : va_D A [(rf 19, .inl (c_elements, 26, .inl g_elements)), (rf 21, .inl (c_ranks, 26, .inl g_ranks)), (rf 25, .inl (c_rankOf, 106496, .inl g_rankOf)), (rf 27, .inl (c_order, 4096, .inl g_order)), (rf 28, .inl (c_sizes, 4096, .inl g_sizes)), (h0, .inr (8, px_mf rf v1)), (rf 18, .inl (c_there, 26, .inl v2))] := hD
  have hP := hP.sub (ws' := [(h0, .inr (8, px_mf rf v1)), (rf 18, .inl (c_there, 26, .inl v2)), (rf 19, .inl (c_elements, 26, .inl g_elements)), (rf 21, .inl (c_ranks, 26, .inl g_ranks)), (rf 25, .inl (c_rankOf, 106496, .inl g_rankOf)), (rf 27, .inl (c_order, 4096, .inl g_order)), (rf 28, .inl (c_sizes, 4096, .inl g_sizes))]) [5, 6, 0, 1, 2, 3, 4] rfl
  have hD := hD.sub (ws' := [(h0, .inr (8, px_mf rf v1)), (rf 18, .inl (c_there, 26, .inl v2)), (rf 19, .inl (c_elements, 26, .inl g_elements)), (rf 21, .inl (c_ranks, 26, .inl g_ranks)), (rf 25, .inl (c_rankOf, 106496, .inl g_rankOf)), (rf 27, .inl (c_order, 4096, .inl g_order)), (rf 28, .inl (c_sizes, 4096, .inl g_sizes))]) [5, 6, 0, 1, 2, 3, 4] (by decide) rfl
  refine lv_if_eq (tgt := 27) hx hb px_d123_5 (by decide) (fun c5 => ?_) (fun c5 => ?_)
  · have hw := hw.1 c5
    exact S27 a1x a2x a3x v1 v2 g_elements g_ranks g_rankOf g_order g_sizes H locs ls hP hD hS (lv_sub hl [0, 1, 2, 3] rfl) hw
  · have hw := hw.2 c5
    refine lv_iload_n hx hb px_d123_8 rfl (lv_at hl 2 rfl) ?_
    refine lv_if_lt (tgt := 27) hx hb px_d123_9 (by decide) (fun c9 => ?_) (fun c9 => ?_)
    · have hw := hw.1 c9
      exact S27 a1x a2x a3x v1 v2 g_elements g_ranks g_rankOf g_order g_sizes H locs ls hP hD hS (lv_sub hl [0, 1, 2, 3] rfl) hw
    · have hw := hw.2 c9
      refine lv_iload_n hx hb px_d123_12 rfl (lv_at hl 2 rfl) ?_
      refine lv_iconst (v := 3) hx hb px_d123_13 (by decide) ?_
      refine lv_icmp_gt (tgt := 27) hx hb px_d123_14 (by decide) (fun c14 => ?_) (fun c14 => ?_)
      · have hw := hw.1 c14
        exact S27 a1x a2x a3x v1 v2 g_elements g_ranks g_rankOf g_order g_sizes H locs ls hP hD hS (lv_sub hl [0, 1, 2, 3] rfl) hw
      · have hw := hw.2 c14
        refine lv_aload_n hx hb px_d123_17 rfl (lv_at hl 0 rfl) ?_
        refine lv_iload_n hx hb px_d123_18 rfl (lv_at hl 1 rfl) ?_
        refine lv_iload_n hx hb px_d123_19 rfl (lv_at hl 2 rfl) ?_
        refine lv_iload_n hx hb px_d123_20 rfl (lv_at hl 3 rfl) ?_
        have hPc := hP.sub (ws' := [(h0, .inr (8, px_mf rf v1)), (rf 19, .inl (c_elements, 26, .inl g_elements)), (rf 21, .inl (c_ranks, 26, .inl g_ranks)), (rf 25, .inl (c_rankOf, 106496, .inl g_rankOf)), (rf 27, .inl (c_order, 4096, .inl g_order)), (rf 28, .inl (c_sizes, 4096, .inl g_sizes))]) [0, 2, 3, 4, 5, 6] rfl
        have hDc := hD.sub (ws' := [(h0, .inr (8, px_mf rf v1)), (rf 19, .inl (c_elements, 26, .inl g_elements)), (rf 21, .inl (c_ranks, 26, .inl g_ranks)), (rf 25, .inl (c_rankOf, 106496, .inl g_rankOf)), (rf 27, .inl (c_order, 4096, .inl g_order)), (rf 28, .inl (c_sizes, 4096, .inl g_sizes))]) [0, 2, 3, 4, 5, 6] (by decide) rfl
        have hKc := hK.sub (tys' := [(c_elements, .int), (c_ranks, .int), (c_rankOf, .byte), (c_order, .int), (c_sizes, .int)]) [1, 2, 3, 4, 5] rfl
        have hFc := va_free (wc := [(h0, .inr (8, px_mf rf v1)), (rf 19, .inl (c_elements, 26, .inl g_elements)), (rf 21, .inl (c_ranks, 26, .inl g_ranks)), (rf 25, .inl (c_rankOf, 106496, .inl g_rankOf)), (rf 27, .inl (c_order, 4096, .inl g_order)), (rf 28, .inl (c_sizes, 4096, .inl g_sizes))]) hD hS hA [0, 2, 3, 4, 5, 6] rfl
        refine va_calli (va_runV (As := [.int a1x, .int a2x, .int a3x]) (rest := []) ⟨hx, hb, hml, hown, htw⟩ (w78_met l dC dI H.size h0 rf c_elements c_ranks c_rankOf c_order c_sizes a1x a2x a3x v1 g_elements g_ranks g_rankOf g_order g_sizes _ hw) (cwV 3 htw (px_gv px_w778 px_w584 px_w585 px_w94 px_g78) rfl rfl rfl (by decide +kernel) ⟨Nat.le_of_ble_eq_true rfl, Nat.le_of_ble_eq_true rfl⟩) ⟨fun a U g mk q => by obtain ⟨q0, q1, qP, qK, qD, qN⟩ := q; exact ⟨q0, q1, qP, va_K.moved (u := U) (U := U.calling g mk a) (Vm.Alike.refl U.vm) qK, qD, qN.same rfl⟩, va_recv hK hP (ci := 8) (q0 := 0) rfl rfl, fun U hU hW => ⟨rfl, by rw [hU], by rw [hU]; exact hPc, va_K.moved hW.alike hKc, hDc.weaken (fun _ _ _ _ => trivial), hN.warm hW⟩⟩ rfl rfl hl.1 rfl (lv_room (Nat.le_of_ble_eq_true rfl)) px_d123_21 ⟨(Nat.le_of_ble_eq_true rfl), (Nat.le_of_ble_eq_true rfl)⟩) hS (fun q _ h => hFc q h) hFc (fun r21 u t H1 locs ht hvm hw hB hz1 hk1 hS => ?_)
        obtain ⟨v3, v4, v5, v6, v7, v8⟩ := u
        obtain ⟨hP1, hK1, hD1⟩ := hB
        rw [ht] at hP1
        have hK1 := va_K.moved hvm.symm hK1
        obtain ⟨hP, hD⟩ := va_join (wr := [(rf 18, .inl (c_there, 26, .inl v2))]) (w1 := [(h0, .inr (8, px_mf rf v3)), (rf 19, .inl (c_elements, 26, .inl v4)), (rf 21, .inl (c_ranks, 26, .inl v5)), (rf 25, .inl (c_rankOf, 106496, .inl v6)), (rf 27, .inl (c_order, 4096, .inl v7)), (rf 28, .inl (c_sizes, 4096, .inl v8))]) hP hD [0, 2, 3, 4, 5, 6] [1] rfl rfl (by decide) (by decide) hk1 hFc hP1 hD1
        generalize H1 = H at hP hS ⊢
        have hP : va_P (dC, dI) vwCl [(rf 18, .inl (c_there, 26, .inl v2)), (h0, .inr (8, px_mf rf v3)), (rf 19, .inl (c_elements, 26, .inl v4)), (rf 21, .inl (c_ranks, 26, .inl v5)), (rf 25, .inl (c_rankOf, 106496, .inl v6)), (rf 27, .inl (c_order, 4096, .inl v7)), (rf 28, .inl (c_sizes, 4096, .inl v8))] H := hP
        have hD : va_D A [(rf 18, .inl (c_there, 26, .inl v2)), (h0, .inr (8, px_mf rf v3)), (rf 19, .inl (c_elements, 26, .inl v4)), (rf 21, .inl (c_ranks, 26, .inl v5)), (rf 25, .inl (c_rankOf, 106496, .inl v6)), (rf 27, .inl (c_order, 4096, .inl v7)), (rf 28, .inl (c_sizes, 4096, .inl v8))] := hD
        have hP := hP.sub (ws' := [(h0, .inr (8, px_mf rf v3)), (rf 18, .inl (c_there, 26, .inl v2)), (rf 19, .inl (c_elements, 26, .inl v4)), (rf 21, .inl (c_ranks, 26, .inl v5)), (rf 25, .inl (c_rankOf, 106496, .inl v6)), (rf 27, .inl (c_order, 4096, .inl v7)), (rf 28, .inl (c_sizes, 4096, .inl v8))]) [1, 0, 2, 3, 4, 5, 6] rfl
        have hD := hD.sub (ws' := [(h0, .inr (8, px_mf rf v3)), (rf 18, .inl (c_there, 26, .inl v2)), (rf 19, .inl (c_elements, 26, .inl v4)), (rf 21, .inl (c_ranks, 26, .inl v5)), (rf 25, .inl (c_rankOf, 106496, .inl v6)), (rf 27, .inl (c_order, 4096, .inl v7)), (rf 28, .inl (c_sizes, 4096, .inl v8))]) [1, 0, 2, 3, 4, 5, 6] (by decide) rfl
        refine lv_goto (tgt := 28) hx hb px_d123_24 (by decide) ?_
        exact S28 a1x a2x a3x r21 v3 v2 v4 v5 v6 v7 v8 H locs ls hP hD hS (lv_sub hl [0, 1, 2, 3] rfl) hw

/-! MatroidDeskModel.weight(II)I -/
def w125_L37 (post : Int32 → (Nat → Int32) → (Nat → Int32) → (Nat → Int32) → (Nat → Int32) → Prop) (x1 : Int32) (x2 : Int32) (y0 : Int32) (iv : Nat → Int32) (g_there : Nat → Int32) (g_elements : Nat → Int32) (g_weights : Nat → Int32) : Prop := post y0 iv g_there g_elements g_weights
def w125_L36 (post : Int32 → (Nat → Int32) → (Nat → Int32) → (Nat → Int32) → (Nat → Int32) → Prop) (x1 : Int32) (x2 : Int32) (iv : Nat → Int32) (g_there : Nat → Int32) (g_elements : Nat → Int32) (g_weights : Nat → Int32) : Prop := w125_L37 post x1 x2 0 iv g_there g_elements g_weights
def w125_wp (post : Int32 → (Nat → Int32) → (Nat → Int32) → (Nat → Int32) → (Nat → Int32) → Prop) (a1x : Int32) (a2x : Int32) (iv : Nat → Int32) (g_there : Nat → Int32) (g_elements : Nat → Int32) (g_weights : Nat → Int32) : Prop := w118_wp (fun r2 v1 v2 => (r2 = 0 → w125_L36 post a1x a2x v1 v2 g_elements g_weights) ∧ (¬ r2 = 0 → (a2x < 0 → w125_L36 post a1x a2x v1 v2 g_elements g_weights) ∧ (¬ a2x < 0 → vp_in a1x 26 ∧ (((g_elements (Int32.toNatClampNeg a1x)) ≤ a2x → w125_L36 post a1x a2x v1 v2 g_elements g_weights) ∧ (¬ (g_elements (Int32.toNatClampNeg a1x)) ≤ a2x → vp_in ((12 * a1x) + a2x) 312 ∧ (w125_L37 post a1x a2x (g_weights (Int32.toNatClampNeg ((12 * a1x) + a2x))) v1 v2 g_elements g_weights)))))) a1x iv g_there
set_option maxHeartbeats 8000000 in
set_option maxRecDepth 100000 in
theorem w125_met (l : Launch) (dC : Nat → ClassId) (dI : Nat → Nat → Nat) (sz : Nat) (h0 : Nat) (rf : Nat → Nat) (c_there : ClassId) (c_elements : ClassId) (c_weights : ClassId) (a1x : Int32) (a2x : Int32) (iv : Nat → Int32) (g_there : Nat → Int32) (g_elements : Nat → Int32) (g_weights : Nat → Int32) (post : Int32 → (Nat → Int32) → (Nat → Int32) → (Nat → Int32) → (Nat → Int32) → Prop) (hw : w125_wp post a1x a2x iv g_there g_elements g_weights) : Met l px_y125 px_s125 ({ frames := 1, cells := 0, slots := 0, locals := 21 }) (va_Pc [.ref h0, .int a1x, .int a2x] (fun U => U.heap.size = sz ∧ va_P (dC, dI) vwCl [(h0, .inr (8, px_mf rf iv)), (rf 18, .inl (c_there, 26, .inl g_there)), (rf 19, .inl (c_elements, 26, .inl g_elements)), (rf 24, .inl (c_weights, 312, .inl g_weights))] U.heap ∧ va_K (dC, dI) vwCl [(c_there, .boolean), (c_elements, .int), (c_weights, .int)] U ∧ va_D (fun _ => True) [(h0, .inr (8, px_mf rf iv)), (rf 18, .inl (c_there, 26, .inl g_there)), (rf 19, .inl (c_elements, 26, .inl g_elements)), (rf 24, .inl (c_weights, 312, .inl g_weights))] ∧ px_N U)) (va_Qi (fun (r : Int32) (u : (Nat → Int32) × (Nat → Int32) × (Nat → Int32) × (Nat → Int32)) => post r u.1 u.2.1 u.2.2.1 u.2.2.2) (fun (u : (Nat → Int32) × (Nat → Int32) × (Nat → Int32) × (Nat → Int32)) (t : State) => va_P (dC, dI) vwCl [(h0, .inr (8, px_mf rf u.1)), (rf 18, .inl (c_there, 26, .inl u.2.1)), (rf 19, .inl (c_elements, 26, .inl u.2.2.1)), (rf 24, .inl (c_weights, 312, .inl u.2.2.2))] t.heap ∧ va_K (dC, dI) vwCl [(c_there, .boolean), (c_elements, .int), (c_weights, .int)] t ∧ va_D (va_A [(h0, .inr (8, px_mf rf iv)), (rf 18, .inl (c_there, 26, .inl g_there)), (rf 19, .inl (c_elements, 26, .inl g_elements)), (rf 24, .inl (c_weights, 312, .inl g_weights))] sz) [(h0, .inr (8, px_mf rf u.1)), (rf 18, .inl (c_there, 26, .inl u.2.1)), (rf 19, .inl (c_elements, 26, .inl u.2.2.1)), (rf 24, .inl (c_weights, 312, .inl u.2.2.2))]) (va_A [(h0, .inr (8, px_mf rf iv)), (rf 18, .inl (c_there, 26, .inl g_there)), (rf 19, .inl (c_elements, 26, .inl g_elements)), (rf 24, .inl (c_weights, 312, .inl g_weights))] sz)) 0 0 (va_A [(h0, .inr (8, px_mf rf iv)), (rf 18, .inl (c_there, 26, .inl g_there)), (rf 19, .inl (c_elements, 26, .inl g_elements)), (rf 24, .inl (c_weights, 312, .inl g_weights))] sz) := by
  refine Met.ofW (cc := prog_15_method_104_code) (maxL := 3) (ret := (some .int)) (by decide) rfl ?_
  intro p e s m args below meth c s₁ B hml hv
  obtain ⟨rfl, hsz, hP, hK, hD0, hN⟩ := hv
  have hx := B.exec
  have hb := B.bytes
  have hr := B.returns
  have htw : ∀ w ∈ px_all, w.before _ s = true := fun w h => atoms_spec (ws := px_s125) B.pre w (List.mem_cons_of_mem _ h)
  have hown : s.vm.findClass "MatroidDeskModel" = some m.cls := findClass_of_methodNamed B.named
  have hlocks := B.notSynchronized
  subst hsz
  have hD := hD0.self (sz := s.heap.size)
  generalize hAe : va_A [(h0, .inr (8, px_mf rf iv)), (rf 18, .inl (c_there, 26, .inl g_there)), (rf 19, .inl (c_elements, 26, .inl g_elements)), (rf 24, .inl (c_weights, 312, .inl g_weights))] s.heap.size = A at hD ⊢
  have hA : ∀ q : Nat, s.heap.size ≤ q → A q := fun q h => by rw [← hAe]; exact Or.inr h
  have hS : va_S A s.heap s.heap [] := va_S.rf
  have hP : va_P (dC, dI) vwCl [(h0, .inr (8, px_mf rf iv)), (rf 18, .inl (c_there, 26, .inl g_there)), (rf 19, .inl (c_elements, 26, .inl g_elements)), (rf 24, .inl (c_weights, 312, .inl g_weights))] s.heap := hP
  have hl := lv_entry ([.ref h0, .int a1x, .int a2x]) (n := 3) (Nat.le_of_ble_eq_true rfl)
  rw [lg_entry_eq]
  generalize (lg_sl ([.ref h0, .int a1x, .int a2x]) ++ List.replicate (3 - (lg_sl ([.ref h0, .int a1x, .int a2x])).length) Slot.unset).toArray = ls at hl ⊢
  have hl : lv_has ls 3 [(0, .ref h0), (1, .int a1x), (2, .int a2x)] := hl
  generalize hQ : MQ _ _ _ _ _ _ _ = Q
  have S37 : ∀ (x1 : Int32) (x2 : Int32) (y0 : Int32) (iv : Nat → Int32) (g_there : Nat → Int32) (g_elements : Nat → Int32) (g_weights : Nat → Int32) (H : Heap) (locs : List Loc) (ls : Array Slot), va_P (dC, dI) vwCl [(h0, .inr (8, px_mf rf iv)), (rf 18, .inl (c_there, 26, .inl g_there)), (rf 19, .inl (c_elements, 26, .inl g_elements)), (rf 24, .inl (c_weights, 312, .inl g_weights))] H → va_D A [(h0, .inr (8, px_mf rf iv)), (rf 18, .inl (c_there, 26, .inl g_there)), (rf 19, .inl (c_elements, 26, .inl g_elements)), (rf 24, .inl (c_weights, 312, .inl g_weights))] → va_S A s.heap H locs → lv_has ls 3 [(0, .ref h0), (1, .int x1), (2, .int x2)] → w125_L37 post x1 x2 y0 iv g_there g_elements g_weights → W p l e (headSpec px_s125 ({ frames := 1, cells := 0, slots := 0, locals := 21 })).room s m ([.ref h0, .int a1x, .int a2x]).toArray below meth c H locs 0 0 Q (F0 m 37 ls [.int y0]) := by
    intro x1 x2 y0 iv g_there g_elements g_weights H locs ls hP hD hS hl hw
    unfold w125_L37 at hw
    rw [← hQ]
    exact W.iret (v := y0) hx hb hr (fun t ht hW => ⟨⟨y0, (iv, g_there, g_elements, g_weights), rfl, hw, by rw [ht]; exact hP, va_K.moved hW.alike hK, hD⟩, hS.F ht⟩) hS.2.2 px_d125_37
  have S36 : ∀ (x1 : Int32) (x2 : Int32) (iv : Nat → Int32) (g_there : Nat → Int32) (g_elements : Nat → Int32) (g_weights : Nat → Int32) (H : Heap) (locs : List Loc) (ls : Array Slot), va_P (dC, dI) vwCl [(h0, .inr (8, px_mf rf iv)), (rf 18, .inl (c_there, 26, .inl g_there)), (rf 19, .inl (c_elements, 26, .inl g_elements)), (rf 24, .inl (c_weights, 312, .inl g_weights))] H → va_D A [(h0, .inr (8, px_mf rf iv)), (rf 18, .inl (c_there, 26, .inl g_there)), (rf 19, .inl (c_elements, 26, .inl g_elements)), (rf 24, .inl (c_weights, 312, .inl g_weights))] → va_S A s.heap H locs → lv_has ls 3 [(0, .ref h0), (1, .int x1), (2, .int x2)] → w125_L36 post x1 x2 iv g_there g_elements g_weights → W p l e (headSpec px_s125 ({ frames := 1, cells := 0, slots := 0, locals := 21 })).room s m ([.ref h0, .int a1x, .int a2x]).toArray below meth c H locs 0 0 Q (F0 m 36 ls []) := by
    intro x1 x2 iv g_there g_elements g_weights H locs ls hP hD hS hl hw
    unfold w125_L36 at hw
    refine lv_iconst (v := 0) hx hb px_d125_36 (by decide) ?_
    exact S37 x1 x2 0 iv g_there g_elements g_weights H locs ls hP hD hS (lv_sub hl [0, 1, 2] rfl) hw
  unfold w125_wp at hw
  have hS0 := hS
  obtain ⟨H, hH9⟩ : ∃ z, z = s.heap := ⟨_, rfl⟩
  have hP : va_P (dC, dI) vwCl [(h0, .inr (8, px_mf rf iv)), (rf 18, .inl (c_there, 26, .inl g_there)), (rf 19, .inl (c_elements, 26, .inl g_elements)), (rf 24, .inl (c_weights, 312, .inl g_weights))] H := by rw [hH9]; exact hP
  obtain ⟨locs, hlo9⟩ : ∃ z : List Loc, z = [] := ⟨_, rfl⟩
  have hS : va_S A s.heap H locs := by rw [hH9, hlo9]; exact hS
  suffices hG : W p l e (headSpec px_s125 ({ frames := 1, cells := 0, slots := 0, locals := 21 })).room s m ([.ref h0, .int a1x, .int a2x]).toArray below meth c H locs 0 0 Q (F0 m 0 ls []) by rw [hH9, hlo9] at hG; exact hG
  refine lv_aload_n hx hb px_d125_0 rfl (lv_at hl 0 rfl) ?_
  refine lv_iload_n hx hb px_d125_1 rfl (lv_at hl 1 rfl) ?_
  have hPc := hP.sub (ws' := [(h0, .inr (8, px_mf rf iv)), (rf 18, .inl (c_there, 26, .inl g_there))]) [0, 1] rfl
  have hDc := hD.sub (ws' := [(h0, .inr (8, px_mf rf iv)), (rf 18, .inl (c_there, 26, .inl g_there))]) [0, 1] (by decide) rfl
  have hKc := hK.sub (tys' := [(c_there, .boolean)]) [0] rfl
  have hFc := va_free (wc := [(h0, .inr (8, px_mf rf iv)), (rf 18, .inl (c_there, 26, .inl g_there))]) hD hS hA [0, 1] rfl
  refine va_calli (va_runV (As := [.int a1x]) (rest := []) ⟨hx, hb, hml, hown, htw⟩ (w118_met l dC dI H.size h0 rf c_there a1x iv g_there _ hw) (cwV 1 htw (px_gv px_w764 px_w759 px_w760 px_w94 px_g118) rfl rfl rfl (by decide +kernel) ⟨Nat.le_of_ble_eq_true rfl, Nat.le_of_ble_eq_true rfl⟩) ⟨fun a U g mk q => by obtain ⟨q0, q1, qP, qK, qD, qN⟩ := q; exact ⟨q0, q1, qP, va_K.moved (u := U) (U := U.calling g mk a) (Vm.Alike.refl U.vm) qK, qD, qN.same rfl⟩, va_recv hK hP (ci := 8) (q0 := 0) rfl rfl, fun U hU hW => ⟨rfl, by rw [hU], by rw [hU]; exact hPc, va_K.moved hW.alike hKc, hDc.weaken (fun _ _ _ _ => trivial), hN.warm hW⟩⟩ rfl rfl hl.1 rfl (lv_room (Nat.le_of_ble_eq_true rfl)) px_d125_2 ⟨(Nat.le_of_ble_eq_true rfl), (Nat.le_of_ble_eq_true rfl)⟩) hS (fun q _ h => hFc q h) hFc (fun r2 u t H1 locs ht hvm hw hB hz1 hk1 hS => ?_)
  obtain ⟨v1, v2⟩ := u
  obtain ⟨hP1, hK1, hD1⟩ := hB
  rw [ht] at hP1
  have hK1 := va_K.moved hvm.symm hK1
  obtain ⟨hP, hD⟩ := va_join (wr := [(rf 19, .inl (c_elements, 26, .inl g_elements)), (rf 24, .inl (c_weights, 312, .inl g_weights))]) (w1 := [(h0, .inr (8, px_mf rf v1)), (rf 18, .inl (c_there, 26, .inl v2))]) hP hD [0, 1] [2, 3] rfl rfl (by decide) (by decide) hk1 hFc hP1 hD1
  generalize H1 = H at hP hS ⊢
  have hP : va_P (dC, dI) vwCl [(rf 19, .inl (c_elements, 26, .inl g_elements)), (rf 24, .inl (c_weights, 312, .inl g_weights)), (h0, .inr (8, px_mf rf v1)), (rf 18, .inl (c_there, 26, .inl v2))] H := hP
  have hD : va_D A [(rf 19, .inl (c_elements, 26, .inl g_elements)), (rf 24, .inl (c_weights, 312, .inl g_weights)), (h0, .inr (8, px_mf rf v1)), (rf 18, .inl (c_there, 26, .inl v2))] := hD
  have hP := hP.sub (ws' := [(h0, .inr (8, px_mf rf v1)), (rf 18, .inl (c_there, 26, .inl v2)), (rf 19, .inl (c_elements, 26, .inl g_elements)), (rf 24, .inl (c_weights, 312, .inl g_weights))]) [2, 3, 0, 1] rfl
  have hD := hD.sub (ws' := [(h0, .inr (8, px_mf rf v1)), (rf 18, .inl (c_there, 26, .inl v2)), (rf 19, .inl (c_elements, 26, .inl g_elements)), (rf 24, .inl (c_weights, 312, .inl g_weights))]) [2, 3, 0, 1] (by decide) rfl
  refine lv_if_eq (tgt := 36) hx hb px_d125_5 (by decide) (fun c5 => ?_) (fun c5 => ?_)
  · have hw := hw.1 c5
    exact S36 a1x a2x v1 v2 g_elements g_weights H locs ls hP hD hS (lv_sub hl [0, 1, 2] rfl) hw
  · have hw := hw.2 c5
    refine lv_iload_n hx hb px_d125_8 rfl (lv_at hl 2 rfl) ?_
    refine lv_if_lt (tgt := 36) hx hb px_d125_9 (by decide) (fun c9 => ?_) (fun c9 => ?_)
    · have hw := hw.1 c9
      exact S36 a1x a2x v1 v2 g_elements g_weights H locs ls hP hD hS (lv_sub hl [0, 1, 2] rfl) hw
    · have hw := hw.2 c9
      refine lv_iload_n hx hb px_d125_12 rfl (lv_at hl 2 rfl) ?_
      refine lv_aload_n hx hb px_d125_13 rfl (lv_at hl 0 rfl) ?_
      refine va_get (D := (dC, dI)) (ci := 8) (v := .ref (rf 19)) (C := "MatroidDeskModel") (T := px_T8) (N := 53) hx hb htw px_in8 hown hK hP 0 rfl rfl 19 (by decide) (htw _ px_w502) (fun _ h9 => h9) rfl px_d125_14 ?_
      refine lv_iload_n hx hb px_d125_17 rfl (lv_at hl 1 rfl) ?_
      obtain ⟨hi18, hw⟩ := hw
      refine va_iald hx hb hK hP 2 1 rfl rfl hi18 px_d125_18 ?_
      refine lv_icmp_ge (tgt := 36) hx hb px_d125_19 (by decide) (fun c19 => ?_) (fun c19 => ?_)
      · have hw := hw.1 c19
        exact S36 a1x a2x v1 v2 g_elements g_weights H locs ls hP hD hS (lv_sub hl [0, 1, 2] rfl) hw
      · have hw := hw.2 c19
        refine lv_aload_n hx hb px_d125_22 rfl (lv_at hl 0 rfl) ?_
        refine va_get (D := (dC, dI)) (ci := 8) (v := .ref (rf 24)) (C := "MatroidDeskModel") (T := px_T8) (N := 53) hx hb htw px_in8 hown hK hP 0 rfl rfl 24 (by decide) (htw _ px_w508) (fun _ h9 => h9) rfl px_d125_23 ?_
        refine lv_bipush (v := 12) hx hb px_d125_26 (by decide) ?_
        refine lv_iload_n hx hb px_d125_28 rfl (lv_at hl 1 rfl) ?_
        refine lv_imul hx hb px_d125_29 ?_
        refine lv_iload_n hx hb px_d125_30 rfl (lv_at hl 2 rfl) ?_
        refine lv_iadd hx hb px_d125_31 ?_
        obtain ⟨hi32, hw⟩ := hw
        refine va_iald hx hb hK hP 3 2 rfl rfl hi32 px_d125_32 ?_
        refine lv_goto (tgt := 37) hx hb px_d125_33 (by decide) ?_
        exact S37 a1x a2x (g_weights (Int32.toNatClampNeg ((12 * a1x) + a2x))) v1 v2 g_elements g_weights H locs ls hP hD hS (lv_sub hl [0, 1, 2] rfl) hw

/-! MatroidDeskModel.best(I)I -/
def w126_L17 (post : Int32 → (Nat → Int32) → (Nat → Int32) → (Nat → Int32) → (Nat → Int32) → (Nat → Int32) → (Nat → Int32) → (Nat → Int32) → (Nat → Int32) → Prop) (x1 : Int32) (y0 : Int32) (iv : Nat → Int32) (g_there : Nat → Int32) (g_elements : Nat → Int32) (g_ranks : Nat → Int32) (g_weights : Nat → Int32) (g_rankOf : Nat → Int32) (g_order : Nat → Int32) (g_sizes : Nat → Int32) : Prop := post y0 iv g_there g_elements g_ranks g_weights g_rankOf g_order g_sizes
def w126_wp (post : Int32 → (Nat → Int32) → (Nat → Int32) → (Nat → Int32) → (Nat → Int32) → (Nat → Int32) → (Nat → Int32) → (Nat → Int32) → (Nat → Int32) → Prop) (a1x : Int32) (iv : Nat → Int32) (g_there : Nat → Int32) (g_elements : Nat → Int32) (g_ranks : Nat → Int32) (g_weights : Nat → Int32) (g_rankOf : Nat → Int32) (g_order : Nat → Int32) (g_sizes : Nat → Int32) : Prop := w118_wp (fun r2 v1 v2 => (r2 = 0 → w126_L17 post a1x (-1) v1 v2 g_elements g_ranks g_weights g_rankOf g_order g_sizes) ∧ (¬ r2 = 0 → w80_wp (fun r10 v3 v4 v5 v6 v7 v8 v9 => w126_L17 post a1x r10 v3 v2 v4 v5 v6 v7 v8 v9) a1x v1 g_elements g_ranks g_weights g_rankOf g_order g_sizes)) a1x iv g_there
set_option maxHeartbeats 8000000 in
set_option maxRecDepth 100000 in
theorem w126_met (l : Launch) (dC : Nat → ClassId) (dI : Nat → Nat → Nat) (sz : Nat) (h0 : Nat) (rf : Nat → Nat) (c_there : ClassId) (c_elements : ClassId) (c_ranks : ClassId) (c_weights : ClassId) (c_rankOf : ClassId) (c_order : ClassId) (c_sizes : ClassId) (a1x : Int32) (iv : Nat → Int32) (g_there : Nat → Int32) (g_elements : Nat → Int32) (g_ranks : Nat → Int32) (g_weights : Nat → Int32) (g_rankOf : Nat → Int32) (g_order : Nat → Int32) (g_sizes : Nat → Int32) (post : Int32 → (Nat → Int32) → (Nat → Int32) → (Nat → Int32) → (Nat → Int32) → (Nat → Int32) → (Nat → Int32) → (Nat → Int32) → (Nat → Int32) → Prop) (hw : w126_wp post a1x iv g_there g_elements g_ranks g_weights g_rankOf g_order g_sizes) : Met l px_y126 px_s126 ({ frames := 5, cells := 0, slots := 0, locals := 120 }) (va_Pc [.ref h0, .int a1x] (fun U => U.heap.size = sz ∧ va_P (dC, dI) vwCl [(h0, .inr (8, px_mf rf iv)), (rf 18, .inl (c_there, 26, .inl g_there)), (rf 19, .inl (c_elements, 26, .inl g_elements)), (rf 21, .inl (c_ranks, 26, .inl g_ranks)), (rf 24, .inl (c_weights, 312, .inl g_weights)), (rf 25, .inl (c_rankOf, 106496, .inl g_rankOf)), (rf 27, .inl (c_order, 4096, .inl g_order)), (rf 28, .inl (c_sizes, 4096, .inl g_sizes))] U.heap ∧ va_K (dC, dI) vwCl [(c_there, .boolean), (c_elements, .int), (c_ranks, .int), (c_weights, .int), (c_rankOf, .byte), (c_order, .int), (c_sizes, .int)] U ∧ va_D (fun _ => True) [(h0, .inr (8, px_mf rf iv)), (rf 18, .inl (c_there, 26, .inl g_there)), (rf 19, .inl (c_elements, 26, .inl g_elements)), (rf 21, .inl (c_ranks, 26, .inl g_ranks)), (rf 24, .inl (c_weights, 312, .inl g_weights)), (rf 25, .inl (c_rankOf, 106496, .inl g_rankOf)), (rf 27, .inl (c_order, 4096, .inl g_order)), (rf 28, .inl (c_sizes, 4096, .inl g_sizes))] ∧ px_N U)) (va_Qi (fun (r : Int32) (u : (Nat → Int32) × (Nat → Int32) × (Nat → Int32) × (Nat → Int32) × (Nat → Int32) × (Nat → Int32) × (Nat → Int32) × (Nat → Int32)) => post r u.1 u.2.1 u.2.2.1 u.2.2.2.1 u.2.2.2.2.1 u.2.2.2.2.2.1 u.2.2.2.2.2.2.1 u.2.2.2.2.2.2.2) (fun (u : (Nat → Int32) × (Nat → Int32) × (Nat → Int32) × (Nat → Int32) × (Nat → Int32) × (Nat → Int32) × (Nat → Int32) × (Nat → Int32)) (t : State) => va_P (dC, dI) vwCl [(h0, .inr (8, px_mf rf u.1)), (rf 18, .inl (c_there, 26, .inl u.2.1)), (rf 19, .inl (c_elements, 26, .inl u.2.2.1)), (rf 21, .inl (c_ranks, 26, .inl u.2.2.2.1)), (rf 24, .inl (c_weights, 312, .inl u.2.2.2.2.1)), (rf 25, .inl (c_rankOf, 106496, .inl u.2.2.2.2.2.1)), (rf 27, .inl (c_order, 4096, .inl u.2.2.2.2.2.2.1)), (rf 28, .inl (c_sizes, 4096, .inl u.2.2.2.2.2.2.2))] t.heap ∧ va_K (dC, dI) vwCl [(c_there, .boolean), (c_elements, .int), (c_ranks, .int), (c_weights, .int), (c_rankOf, .byte), (c_order, .int), (c_sizes, .int)] t ∧ va_D (va_A [(h0, .inr (8, px_mf rf iv)), (rf 18, .inl (c_there, 26, .inl g_there)), (rf 19, .inl (c_elements, 26, .inl g_elements)), (rf 21, .inl (c_ranks, 26, .inl g_ranks)), (rf 24, .inl (c_weights, 312, .inl g_weights)), (rf 25, .inl (c_rankOf, 106496, .inl g_rankOf)), (rf 27, .inl (c_order, 4096, .inl g_order)), (rf 28, .inl (c_sizes, 4096, .inl g_sizes))] sz) [(h0, .inr (8, px_mf rf u.1)), (rf 18, .inl (c_there, 26, .inl u.2.1)), (rf 19, .inl (c_elements, 26, .inl u.2.2.1)), (rf 21, .inl (c_ranks, 26, .inl u.2.2.2.1)), (rf 24, .inl (c_weights, 312, .inl u.2.2.2.2.1)), (rf 25, .inl (c_rankOf, 106496, .inl u.2.2.2.2.2.1)), (rf 27, .inl (c_order, 4096, .inl u.2.2.2.2.2.2.1)), (rf 28, .inl (c_sizes, 4096, .inl u.2.2.2.2.2.2.2))]) (va_A [(h0, .inr (8, px_mf rf iv)), (rf 18, .inl (c_there, 26, .inl g_there)), (rf 19, .inl (c_elements, 26, .inl g_elements)), (rf 21, .inl (c_ranks, 26, .inl g_ranks)), (rf 24, .inl (c_weights, 312, .inl g_weights)), (rf 25, .inl (c_rankOf, 106496, .inl g_rankOf)), (rf 27, .inl (c_order, 4096, .inl g_order)), (rf 28, .inl (c_sizes, 4096, .inl g_sizes))] sz)) 0 0 (va_A [(h0, .inr (8, px_mf rf iv)), (rf 18, .inl (c_there, 26, .inl g_there)), (rf 19, .inl (c_elements, 26, .inl g_elements)), (rf 21, .inl (c_ranks, 26, .inl g_ranks)), (rf 24, .inl (c_weights, 312, .inl g_weights)), (rf 25, .inl (c_rankOf, 106496, .inl g_rankOf)), (rf 27, .inl (c_order, 4096, .inl g_order)), (rf 28, .inl (c_sizes, 4096, .inl g_sizes))] sz) := by
  refine Met.ofW (cc := prog_15_method_105_code) (maxL := 2) (ret := (some .int)) (by decide) rfl ?_
  intro p e s m args below meth c s₁ B hml hv
  obtain ⟨rfl, hsz, hP, hK, hD0, hN⟩ := hv
  have hx := B.exec
  have hb := B.bytes
  have hr := B.returns
  have htw : ∀ w ∈ px_all, w.before _ s = true := fun w h => atoms_spec (ws := px_s126) B.pre w (List.mem_cons_of_mem _ h)
  have hown : s.vm.findClass "MatroidDeskModel" = some m.cls := findClass_of_methodNamed B.named
  have hlocks := B.notSynchronized
  subst hsz
  have hD := hD0.self (sz := s.heap.size)
  generalize hAe : va_A [(h0, .inr (8, px_mf rf iv)), (rf 18, .inl (c_there, 26, .inl g_there)), (rf 19, .inl (c_elements, 26, .inl g_elements)), (rf 21, .inl (c_ranks, 26, .inl g_ranks)), (rf 24, .inl (c_weights, 312, .inl g_weights)), (rf 25, .inl (c_rankOf, 106496, .inl g_rankOf)), (rf 27, .inl (c_order, 4096, .inl g_order)), (rf 28, .inl (c_sizes, 4096, .inl g_sizes))] s.heap.size = A at hD ⊢
  have hA : ∀ q : Nat, s.heap.size ≤ q → A q := fun q h => by rw [← hAe]; exact Or.inr h
  have hS : va_S A s.heap s.heap [] := va_S.rf
  have hP : va_P (dC, dI) vwCl [(h0, .inr (8, px_mf rf iv)), (rf 18, .inl (c_there, 26, .inl g_there)), (rf 19, .inl (c_elements, 26, .inl g_elements)), (rf 21, .inl (c_ranks, 26, .inl g_ranks)), (rf 24, .inl (c_weights, 312, .inl g_weights)), (rf 25, .inl (c_rankOf, 106496, .inl g_rankOf)), (rf 27, .inl (c_order, 4096, .inl g_order)), (rf 28, .inl (c_sizes, 4096, .inl g_sizes))] s.heap := hP
  have hl := lv_entry ([.ref h0, .int a1x]) (n := 2) (Nat.le_of_ble_eq_true rfl)
  rw [lg_entry_eq]
  generalize (lg_sl ([.ref h0, .int a1x]) ++ List.replicate (2 - (lg_sl ([.ref h0, .int a1x])).length) Slot.unset).toArray = ls at hl ⊢
  have hl : lv_has ls 2 [(0, .ref h0), (1, .int a1x)] := hl
  generalize hQ : MQ _ _ _ _ _ _ _ = Q
  have S17 : ∀ (x1 : Int32) (y0 : Int32) (iv : Nat → Int32) (g_there : Nat → Int32) (g_elements : Nat → Int32) (g_ranks : Nat → Int32) (g_weights : Nat → Int32) (g_rankOf : Nat → Int32) (g_order : Nat → Int32) (g_sizes : Nat → Int32) (H : Heap) (locs : List Loc) (ls : Array Slot), va_P (dC, dI) vwCl [(h0, .inr (8, px_mf rf iv)), (rf 18, .inl (c_there, 26, .inl g_there)), (rf 19, .inl (c_elements, 26, .inl g_elements)), (rf 21, .inl (c_ranks, 26, .inl g_ranks)), (rf 24, .inl (c_weights, 312, .inl g_weights)), (rf 25, .inl (c_rankOf, 106496, .inl g_rankOf)), (rf 27, .inl (c_order, 4096, .inl g_order)), (rf 28, .inl (c_sizes, 4096, .inl g_sizes))] H → va_D A [(h0, .inr (8, px_mf rf iv)), (rf 18, .inl (c_there, 26, .inl g_there)), (rf 19, .inl (c_elements, 26, .inl g_elements)), (rf 21, .inl (c_ranks, 26, .inl g_ranks)), (rf 24, .inl (c_weights, 312, .inl g_weights)), (rf 25, .inl (c_rankOf, 106496, .inl g_rankOf)), (rf 27, .inl (c_order, 4096, .inl g_order)), (rf 28, .inl (c_sizes, 4096, .inl g_sizes))] → va_S A s.heap H locs → lv_has ls 2 [(0, .ref h0), (1, .int x1)] → w126_L17 post x1 y0 iv g_there g_elements g_ranks g_weights g_rankOf g_order g_sizes → W p l e (headSpec px_s126 ({ frames := 5, cells := 0, slots := 0, locals := 120 })).room s m ([.ref h0, .int a1x]).toArray below meth c H locs 0 0 Q (F0 m 17 ls [.int y0]) := by
    intro x1 y0 iv g_there g_elements g_ranks g_weights g_rankOf g_order g_sizes H locs ls hP hD hS hl hw
    unfold w126_L17 at hw
    rw [← hQ]
    exact W.iret (v := y0) hx hb hr (fun t ht hW => ⟨⟨y0, (iv, g_there, g_elements, g_ranks, g_weights, g_rankOf, g_order, g_sizes), rfl, hw, by rw [ht]; exact hP, va_K.moved hW.alike hK, hD⟩, hS.F ht⟩) hS.2.2 px_d126_17
  unfold w126_wp at hw
  have hS0 := hS
  obtain ⟨H, hH9⟩ : ∃ z, z = s.heap := ⟨_, rfl⟩
  have hP : va_P (dC, dI) vwCl [(h0, .inr (8, px_mf rf iv)), (rf 18, .inl (c_there, 26, .inl g_there)), (rf 19, .inl (c_elements, 26, .inl g_elements)), (rf 21, .inl (c_ranks, 26, .inl g_ranks)), (rf 24, .inl (c_weights, 312, .inl g_weights)), (rf 25, .inl (c_rankOf, 106496, .inl g_rankOf)), (rf 27, .inl (c_order, 4096, .inl g_order)), (rf 28, .inl (c_sizes, 4096, .inl g_sizes))] H := by rw [hH9]; exact hP
  obtain ⟨locs, hlo9⟩ : ∃ z : List Loc, z = [] := ⟨_, rfl⟩
  have hS : va_S A s.heap H locs := by rw [hH9, hlo9]; exact hS
  suffices hG : W p l e (headSpec px_s126 ({ frames := 5, cells := 0, slots := 0, locals := 120 })).room s m ([.ref h0, .int a1x]).toArray below meth c H locs 0 0 Q (F0 m 0 ls []) by rw [hH9, hlo9] at hG; exact hG
  refine lv_aload_n hx hb px_d126_0 rfl (lv_at hl 0 rfl) ?_
  refine lv_iload_n hx hb px_d126_1 rfl (lv_at hl 1 rfl) ?_
  have hPc := hP.sub (ws' := [(h0, .inr (8, px_mf rf iv)), (rf 18, .inl (c_there, 26, .inl g_there))]) [0, 1] rfl
  have hDc := hD.sub (ws' := [(h0, .inr (8, px_mf rf iv)), (rf 18, .inl (c_there, 26, .inl g_there))]) [0, 1] (by decide) rfl
  have hKc := hK.sub (tys' := [(c_there, .boolean)]) [0] rfl
  have hFc := va_free (wc := [(h0, .inr (8, px_mf rf iv)), (rf 18, .inl (c_there, 26, .inl g_there))]) hD hS hA [0, 1] rfl
  refine va_calli (va_runV (As := [.int a1x]) (rest := []) ⟨hx, hb, hml, hown, htw⟩ (w118_met l dC dI H.size h0 rf c_there a1x iv g_there _ hw) (cwV 1 htw (px_gv px_w764 px_w759 px_w760 px_w94 px_g118) rfl rfl rfl (by decide +kernel) ⟨Nat.le_of_ble_eq_true rfl, Nat.le_of_ble_eq_true rfl⟩) ⟨fun a U g mk q => by obtain ⟨q0, q1, qP, qK, qD, qN⟩ := q; exact ⟨q0, q1, qP, va_K.moved (u := U) (U := U.calling g mk a) (Vm.Alike.refl U.vm) qK, qD, qN.same rfl⟩, va_recv hK hP (ci := 8) (q0 := 0) rfl rfl, fun U hU hW => ⟨rfl, by rw [hU], by rw [hU]; exact hPc, va_K.moved hW.alike hKc, hDc.weaken (fun _ _ _ _ => trivial), hN.warm hW⟩⟩ rfl rfl hl.1 rfl (lv_room (Nat.le_of_ble_eq_true rfl)) px_d126_2 ⟨(Nat.le_of_ble_eq_true rfl), (Nat.le_of_ble_eq_true rfl)⟩) hS (fun q _ h => hFc q h) hFc (fun r2 u t H1 locs ht hvm hw hB hz1 hk1 hS => ?_)
  obtain ⟨v1, v2⟩ := u
  obtain ⟨hP1, hK1, hD1⟩ := hB
  rw [ht] at hP1
  have hK1 := va_K.moved hvm.symm hK1
  obtain ⟨hP, hD⟩ := va_join (wr := [(rf 19, .inl (c_elements, 26, .inl g_elements)), (rf 21, .inl (c_ranks, 26, .inl g_ranks)), (rf 24, .inl (c_weights, 312, .inl g_weights)), (rf 25, .inl (c_rankOf, 106496, .inl g_rankOf)), (rf 27, .inl (c_order, 4096, .inl g_order)), (rf 28, .inl (c_sizes, 4096, .inl g_sizes))]) (w1 := [(h0, .inr (8, px_mf rf v1)), (rf 18, .inl (c_there, 26, .inl v2))]) hP hD [0, 1] [2, 3, 4, 5, 6, 7] rfl rfl (by decide) (by decide) hk1 hFc hP1 hD1
  generalize H1 = H at hP hS ⊢
  have hP : va_P (dC, dI) vwCl [(rf 19, .inl (c_elements, 26, .inl g_elements)), (rf 21, .inl (c_ranks, 26, .inl g_ranks)), (rf 24, .inl (c_weights, 312, .inl g_weights)), (rf 25, .inl (c_rankOf, 106496, .inl g_rankOf)), (rf 27, .inl (c_order, 4096, .inl g_order)), (rf 28, .inl (c_sizes, 4096, .inl g_sizes)), (h0, .inr (8, px_mf rf v1)), (rf 18, .inl (c_there, 26, .inl v2))] H := hP
  have hD : va_D A [(rf 19, .inl (c_elements, 26, .inl g_elements)), (rf 21, .inl (c_ranks, 26, .inl g_ranks)), (rf 24, .inl (c_weights, 312, .inl g_weights)), (rf 25, .inl (c_rankOf, 106496, .inl g_rankOf)), (rf 27, .inl (c_order, 4096, .inl g_order)), (rf 28, .inl (c_sizes, 4096, .inl g_sizes)), (h0, .inr (8, px_mf rf v1)), (rf 18, .inl (c_there, 26, .inl v2))] := hD
  have hP := hP.sub (ws' := [(h0, .inr (8, px_mf rf v1)), (rf 18, .inl (c_there, 26, .inl v2)), (rf 19, .inl (c_elements, 26, .inl g_elements)), (rf 21, .inl (c_ranks, 26, .inl g_ranks)), (rf 24, .inl (c_weights, 312, .inl g_weights)), (rf 25, .inl (c_rankOf, 106496, .inl g_rankOf)), (rf 27, .inl (c_order, 4096, .inl g_order)), (rf 28, .inl (c_sizes, 4096, .inl g_sizes))]) [6, 7, 0, 1, 2, 3, 4, 5] rfl
  have hD := hD.sub (ws' := [(h0, .inr (8, px_mf rf v1)), (rf 18, .inl (c_there, 26, .inl v2)), (rf 19, .inl (c_elements, 26, .inl g_elements)), (rf 21, .inl (c_ranks, 26, .inl g_ranks)), (rf 24, .inl (c_weights, 312, .inl g_weights)), (rf 25, .inl (c_rankOf, 106496, .inl g_rankOf)), (rf 27, .inl (c_order, 4096, .inl g_order)), (rf 28, .inl (c_sizes, 4096, .inl g_sizes))]) [6, 7, 0, 1, 2, 3, 4, 5] (by decide) rfl
  refine lv_if_eq (tgt := 16) hx hb px_d126_5 (by decide) (fun c5 => ?_) (fun c5 => ?_)
  · have hw := hw.1 c5
    refine lv_iconst (v := (-1)) hx hb px_d126_16 (by decide) ?_
    exact S17 a1x (-1) v1 v2 g_elements g_ranks g_weights g_rankOf g_order g_sizes H locs ls hP hD hS (lv_sub hl [0, 1] rfl) hw
  · have hw := hw.2 c5
    refine lv_aload_n hx hb px_d126_8 rfl (lv_at hl 0 rfl) ?_
    refine lv_iload_n hx hb px_d126_9 rfl (lv_at hl 1 rfl) ?_
    have hPc := hP.sub (ws' := [(h0, .inr (8, px_mf rf v1)), (rf 19, .inl (c_elements, 26, .inl g_elements)), (rf 21, .inl (c_ranks, 26, .inl g_ranks)), (rf 24, .inl (c_weights, 312, .inl g_weights)), (rf 25, .inl (c_rankOf, 106496, .inl g_rankOf)), (rf 27, .inl (c_order, 4096, .inl g_order)), (rf 28, .inl (c_sizes, 4096, .inl g_sizes))]) [0, 2, 3, 4, 5, 6, 7] rfl
    have hDc := hD.sub (ws' := [(h0, .inr (8, px_mf rf v1)), (rf 19, .inl (c_elements, 26, .inl g_elements)), (rf 21, .inl (c_ranks, 26, .inl g_ranks)), (rf 24, .inl (c_weights, 312, .inl g_weights)), (rf 25, .inl (c_rankOf, 106496, .inl g_rankOf)), (rf 27, .inl (c_order, 4096, .inl g_order)), (rf 28, .inl (c_sizes, 4096, .inl g_sizes))]) [0, 2, 3, 4, 5, 6, 7] (by decide) rfl
    have hKc := hK.sub (tys' := [(c_elements, .int), (c_ranks, .int), (c_weights, .int), (c_rankOf, .byte), (c_order, .int), (c_sizes, .int)]) [1, 2, 3, 4, 5, 6] rfl
    have hFc := va_free (wc := [(h0, .inr (8, px_mf rf v1)), (rf 19, .inl (c_elements, 26, .inl g_elements)), (rf 21, .inl (c_ranks, 26, .inl g_ranks)), (rf 24, .inl (c_weights, 312, .inl g_weights)), (rf 25, .inl (c_rankOf, 106496, .inl g_rankOf)), (rf 27, .inl (c_order, 4096, .inl g_order)), (rf 28, .inl (c_sizes, 4096, .inl g_sizes))]) hD hS hA [0, 2, 3, 4, 5, 6, 7] rfl
    refine va_calli (va_runV (As := [.int a1x]) (rest := []) ⟨hx, hb, hml, hown, htw⟩ (w80_met l dC dI H.size h0 rf c_elements c_ranks c_weights c_rankOf c_order c_sizes a1x v1 g_elements g_ranks g_weights g_rankOf g_order g_sizes _ hw) (cwV 1 htw (px_gv px_w747 px_w590 px_w591 px_w94 px_g80) rfl rfl rfl (by decide +kernel) ⟨Nat.le_of_ble_eq_true rfl, Nat.le_of_ble_eq_true rfl⟩) ⟨fun a U g mk q => by obtain ⟨q0, q1, qP, qK, qD, qN⟩ := q; exact ⟨q0, q1, qP, va_K.moved (u := U) (U := U.calling g mk a) (Vm.Alike.refl U.vm) qK, qD, qN.same rfl⟩, va_recv hK hP (ci := 8) (q0 := 0) rfl rfl, fun U hU hW => ⟨rfl, by rw [hU], by rw [hU]; exact hPc, va_K.moved hW.alike hKc, hDc.weaken (fun _ _ _ _ => trivial), hN.warm hW⟩⟩ rfl rfl hl.1 rfl (lv_room (Nat.le_of_ble_eq_true rfl)) px_d126_10 ⟨(Nat.le_of_ble_eq_true rfl), (Nat.le_of_ble_eq_true rfl)⟩) hS (fun q _ h => hFc q h) hFc (fun r10 u t H1 locs ht hvm hw hB hz1 hk1 hS => ?_)
    obtain ⟨v3, v4, v5, v6, v7, v8, v9⟩ := u
    obtain ⟨hP1, hK1, hD1⟩ := hB
    rw [ht] at hP1
    have hK1 := va_K.moved hvm.symm hK1
    obtain ⟨hP, hD⟩ := va_join (wr := [(rf 18, .inl (c_there, 26, .inl v2))]) (w1 := [(h0, .inr (8, px_mf rf v3)), (rf 19, .inl (c_elements, 26, .inl v4)), (rf 21, .inl (c_ranks, 26, .inl v5)), (rf 24, .inl (c_weights, 312, .inl v6)), (rf 25, .inl (c_rankOf, 106496, .inl v7)), (rf 27, .inl (c_order, 4096, .inl v8)), (rf 28, .inl (c_sizes, 4096, .inl v9))]) hP hD [0, 2, 3, 4, 5, 6, 7] [1] rfl rfl (by decide) (by decide) hk1 hFc hP1 hD1
    generalize H1 = H at hP hS ⊢
    have hP : va_P (dC, dI) vwCl [(rf 18, .inl (c_there, 26, .inl v2)), (h0, .inr (8, px_mf rf v3)), (rf 19, .inl (c_elements, 26, .inl v4)), (rf 21, .inl (c_ranks, 26, .inl v5)), (rf 24, .inl (c_weights, 312, .inl v6)), (rf 25, .inl (c_rankOf, 106496, .inl v7)), (rf 27, .inl (c_order, 4096, .inl v8)), (rf 28, .inl (c_sizes, 4096, .inl v9))] H := hP
    have hD : va_D A [(rf 18, .inl (c_there, 26, .inl v2)), (h0, .inr (8, px_mf rf v3)), (rf 19, .inl (c_elements, 26, .inl v4)), (rf 21, .inl (c_ranks, 26, .inl v5)), (rf 24, .inl (c_weights, 312, .inl v6)), (rf 25, .inl (c_rankOf, 106496, .inl v7)), (rf 27, .inl (c_order, 4096, .inl v8)), (rf 28, .inl (c_sizes, 4096, .inl v9))] := hD
    have hP := hP.sub (ws' := [(h0, .inr (8, px_mf rf v3)), (rf 18, .inl (c_there, 26, .inl v2)), (rf 19, .inl (c_elements, 26, .inl v4)), (rf 21, .inl (c_ranks, 26, .inl v5)), (rf 24, .inl (c_weights, 312, .inl v6)), (rf 25, .inl (c_rankOf, 106496, .inl v7)), (rf 27, .inl (c_order, 4096, .inl v8)), (rf 28, .inl (c_sizes, 4096, .inl v9))]) [1, 0, 2, 3, 4, 5, 6, 7] rfl
    have hD := hD.sub (ws' := [(h0, .inr (8, px_mf rf v3)), (rf 18, .inl (c_there, 26, .inl v2)), (rf 19, .inl (c_elements, 26, .inl v4)), (rf 21, .inl (c_ranks, 26, .inl v5)), (rf 24, .inl (c_weights, 312, .inl v6)), (rf 25, .inl (c_rankOf, 106496, .inl v7)), (rf 27, .inl (c_order, 4096, .inl v8)), (rf 28, .inl (c_sizes, 4096, .inl v9))]) [1, 0, 2, 3, 4, 5, 6, 7] (by decide) rfl
    refine lv_goto (tgt := 17) hx hb px_d126_13 (by decide) ?_
    exact S17 a1x r10 v3 v2 v4 v5 v6 v7 v8 v9 H locs ls hP hD hS (lv_sub hl [0, 1] rfl) hw

/-! MatroidDeskModel.common(II)I -/
def w127_L41 (post : Int32 → (Nat → Int32) → (Nat → Int32) → (Nat → Int32) → (Nat → Int32) → (Nat → Int32) → (Nat → Int32) → Prop) (x1 : Int32) (x2 : Int32) (y0 : Int32) (iv : Nat → Int32) (g_there : Nat → Int32) (g_elements : Nat → Int32) (g_rankOf : Nat → Int32) (g_order : Nat → Int32) (g_sizes : Nat → Int32) : Prop := post y0 iv g_there g_elements g_rankOf g_order g_sizes
def w127_L40 (post : Int32 → (Nat → Int32) → (Nat → Int32) → (Nat → Int32) → (Nat → Int32) → (Nat → Int32) → (Nat → Int32) → Prop) (x1 : Int32) (x2 : Int32) (iv : Nat → Int32) (g_there : Nat → Int32) (g_elements : Nat → Int32) (g_rankOf : Nat → Int32) (g_order : Nat → Int32) (g_sizes : Nat → Int32) : Prop := w127_L41 post x1 x2 (-1) iv g_there g_elements g_rankOf g_order g_sizes
def w127_wp (post : Int32 → (Nat → Int32) → (Nat → Int32) → (Nat → Int32) → (Nat → Int32) → (Nat → Int32) → (Nat → Int32) → Prop) (a1x : Int32) (a2x : Int32) (iv : Nat → Int32) (g_there : Nat → Int32) (g_elements : Nat → Int32) (g_rankOf : Nat → Int32) (g_order : Nat → Int32) (g_sizes : Nat → Int32) : Prop := w118_wp (fun r2 v1 v2 => (r2 = 0 → w127_L40 post a1x a2x v1 v2 g_elements g_rankOf g_order g_sizes) ∧ (¬ r2 = 0 → w118_wp (fun r10 v3 v4 => (r10 = 0 → w127_L40 post a1x a2x v3 v4 g_elements g_rankOf g_order g_sizes) ∧ (¬ r10 = 0 → vp_in a1x 26 ∧ (vp_in a2x 26 ∧ ((¬ (g_elements (Int32.toNatClampNeg a1x)) = (g_elements (Int32.toNatClampNeg a2x)) → w127_L40 post a1x a2x v3 v4 g_elements g_rankOf g_order g_sizes) ∧ ((g_elements (Int32.toNatClampNeg a1x)) = (g_elements (Int32.toNatClampNeg a2x)) → w81_wp (fun r34 v5 v6 v7 v8 v9 => w127_L41 post a1x a2x r34 v5 v4 v6 v7 v8 v9) a1x a2x v3 g_elements g_rankOf g_order g_sizes))))) a2x v1 v2)) a1x iv g_there
set_option maxHeartbeats 8000000 in
set_option maxRecDepth 100000 in
theorem w127_met (l : Launch) (dC : Nat → ClassId) (dI : Nat → Nat → Nat) (sz : Nat) (h0 : Nat) (rf : Nat → Nat) (c_there : ClassId) (c_elements : ClassId) (c_rankOf : ClassId) (c_order : ClassId) (c_sizes : ClassId) (a1x : Int32) (a2x : Int32) (iv : Nat → Int32) (g_there : Nat → Int32) (g_elements : Nat → Int32) (g_rankOf : Nat → Int32) (g_order : Nat → Int32) (g_sizes : Nat → Int32) (post : Int32 → (Nat → Int32) → (Nat → Int32) → (Nat → Int32) → (Nat → Int32) → (Nat → Int32) → (Nat → Int32) → Prop) (hw : w127_wp post a1x a2x iv g_there g_elements g_rankOf g_order g_sizes) : Met l px_y127 px_s127 ({ frames := 3, cells := 0, slots := 0, locals := 69 }) (va_Pc [.ref h0, .int a1x, .int a2x] (fun U => U.heap.size = sz ∧ va_P (dC, dI) vwCl [(h0, .inr (8, px_mf rf iv)), (rf 18, .inl (c_there, 26, .inl g_there)), (rf 19, .inl (c_elements, 26, .inl g_elements)), (rf 25, .inl (c_rankOf, 106496, .inl g_rankOf)), (rf 27, .inl (c_order, 4096, .inl g_order)), (rf 28, .inl (c_sizes, 4096, .inl g_sizes))] U.heap ∧ va_K (dC, dI) vwCl [(c_there, .boolean), (c_elements, .int), (c_rankOf, .byte), (c_order, .int), (c_sizes, .int)] U ∧ va_D (fun _ => True) [(h0, .inr (8, px_mf rf iv)), (rf 18, .inl (c_there, 26, .inl g_there)), (rf 19, .inl (c_elements, 26, .inl g_elements)), (rf 25, .inl (c_rankOf, 106496, .inl g_rankOf)), (rf 27, .inl (c_order, 4096, .inl g_order)), (rf 28, .inl (c_sizes, 4096, .inl g_sizes))] ∧ px_N U)) (va_Qi (fun (r : Int32) (u : (Nat → Int32) × (Nat → Int32) × (Nat → Int32) × (Nat → Int32) × (Nat → Int32) × (Nat → Int32)) => post r u.1 u.2.1 u.2.2.1 u.2.2.2.1 u.2.2.2.2.1 u.2.2.2.2.2) (fun (u : (Nat → Int32) × (Nat → Int32) × (Nat → Int32) × (Nat → Int32) × (Nat → Int32) × (Nat → Int32)) (t : State) => va_P (dC, dI) vwCl [(h0, .inr (8, px_mf rf u.1)), (rf 18, .inl (c_there, 26, .inl u.2.1)), (rf 19, .inl (c_elements, 26, .inl u.2.2.1)), (rf 25, .inl (c_rankOf, 106496, .inl u.2.2.2.1)), (rf 27, .inl (c_order, 4096, .inl u.2.2.2.2.1)), (rf 28, .inl (c_sizes, 4096, .inl u.2.2.2.2.2))] t.heap ∧ va_K (dC, dI) vwCl [(c_there, .boolean), (c_elements, .int), (c_rankOf, .byte), (c_order, .int), (c_sizes, .int)] t ∧ va_D (va_A [(h0, .inr (8, px_mf rf iv)), (rf 18, .inl (c_there, 26, .inl g_there)), (rf 19, .inl (c_elements, 26, .inl g_elements)), (rf 25, .inl (c_rankOf, 106496, .inl g_rankOf)), (rf 27, .inl (c_order, 4096, .inl g_order)), (rf 28, .inl (c_sizes, 4096, .inl g_sizes))] sz) [(h0, .inr (8, px_mf rf u.1)), (rf 18, .inl (c_there, 26, .inl u.2.1)), (rf 19, .inl (c_elements, 26, .inl u.2.2.1)), (rf 25, .inl (c_rankOf, 106496, .inl u.2.2.2.1)), (rf 27, .inl (c_order, 4096, .inl u.2.2.2.2.1)), (rf 28, .inl (c_sizes, 4096, .inl u.2.2.2.2.2))]) (va_A [(h0, .inr (8, px_mf rf iv)), (rf 18, .inl (c_there, 26, .inl g_there)), (rf 19, .inl (c_elements, 26, .inl g_elements)), (rf 25, .inl (c_rankOf, 106496, .inl g_rankOf)), (rf 27, .inl (c_order, 4096, .inl g_order)), (rf 28, .inl (c_sizes, 4096, .inl g_sizes))] sz)) 0 0 (va_A [(h0, .inr (8, px_mf rf iv)), (rf 18, .inl (c_there, 26, .inl g_there)), (rf 19, .inl (c_elements, 26, .inl g_elements)), (rf 25, .inl (c_rankOf, 106496, .inl g_rankOf)), (rf 27, .inl (c_order, 4096, .inl g_order)), (rf 28, .inl (c_sizes, 4096, .inl g_sizes))] sz) := by
  refine Met.ofW (cc := prog_15_method_106_code) (maxL := 3) (ret := (some .int)) (by decide) rfl ?_
  intro p e s m args below meth c s₁ B hml hv
  obtain ⟨rfl, hsz, hP, hK, hD0, hN⟩ := hv
  have hx := B.exec
  have hb := B.bytes
  have hr := B.returns
  have htw : ∀ w ∈ px_all, w.before _ s = true := fun w h => atoms_spec (ws := px_s127) B.pre w (List.mem_cons_of_mem _ h)
  have hown : s.vm.findClass "MatroidDeskModel" = some m.cls := findClass_of_methodNamed B.named
  have hlocks := B.notSynchronized
  subst hsz
  have hD := hD0.self (sz := s.heap.size)
  generalize hAe : va_A [(h0, .inr (8, px_mf rf iv)), (rf 18, .inl (c_there, 26, .inl g_there)), (rf 19, .inl (c_elements, 26, .inl g_elements)), (rf 25, .inl (c_rankOf, 106496, .inl g_rankOf)), (rf 27, .inl (c_order, 4096, .inl g_order)), (rf 28, .inl (c_sizes, 4096, .inl g_sizes))] s.heap.size = A at hD ⊢
  have hA : ∀ q : Nat, s.heap.size ≤ q → A q := fun q h => by rw [← hAe]; exact Or.inr h
  have hS : va_S A s.heap s.heap [] := va_S.rf
  have hP : va_P (dC, dI) vwCl [(h0, .inr (8, px_mf rf iv)), (rf 18, .inl (c_there, 26, .inl g_there)), (rf 19, .inl (c_elements, 26, .inl g_elements)), (rf 25, .inl (c_rankOf, 106496, .inl g_rankOf)), (rf 27, .inl (c_order, 4096, .inl g_order)), (rf 28, .inl (c_sizes, 4096, .inl g_sizes))] s.heap := hP
  have hl := lv_entry ([.ref h0, .int a1x, .int a2x]) (n := 3) (Nat.le_of_ble_eq_true rfl)
  rw [lg_entry_eq]
  generalize (lg_sl ([.ref h0, .int a1x, .int a2x]) ++ List.replicate (3 - (lg_sl ([.ref h0, .int a1x, .int a2x])).length) Slot.unset).toArray = ls at hl ⊢
  have hl : lv_has ls 3 [(0, .ref h0), (1, .int a1x), (2, .int a2x)] := hl
  generalize hQ : MQ _ _ _ _ _ _ _ = Q
  have S41 : ∀ (x1 : Int32) (x2 : Int32) (y0 : Int32) (iv : Nat → Int32) (g_there : Nat → Int32) (g_elements : Nat → Int32) (g_rankOf : Nat → Int32) (g_order : Nat → Int32) (g_sizes : Nat → Int32) (H : Heap) (locs : List Loc) (ls : Array Slot), va_P (dC, dI) vwCl [(h0, .inr (8, px_mf rf iv)), (rf 18, .inl (c_there, 26, .inl g_there)), (rf 19, .inl (c_elements, 26, .inl g_elements)), (rf 25, .inl (c_rankOf, 106496, .inl g_rankOf)), (rf 27, .inl (c_order, 4096, .inl g_order)), (rf 28, .inl (c_sizes, 4096, .inl g_sizes))] H → va_D A [(h0, .inr (8, px_mf rf iv)), (rf 18, .inl (c_there, 26, .inl g_there)), (rf 19, .inl (c_elements, 26, .inl g_elements)), (rf 25, .inl (c_rankOf, 106496, .inl g_rankOf)), (rf 27, .inl (c_order, 4096, .inl g_order)), (rf 28, .inl (c_sizes, 4096, .inl g_sizes))] → va_S A s.heap H locs → lv_has ls 3 [(0, .ref h0), (1, .int x1), (2, .int x2)] → w127_L41 post x1 x2 y0 iv g_there g_elements g_rankOf g_order g_sizes → W p l e (headSpec px_s127 ({ frames := 3, cells := 0, slots := 0, locals := 69 })).room s m ([.ref h0, .int a1x, .int a2x]).toArray below meth c H locs 0 0 Q (F0 m 41 ls [.int y0]) := by
    intro x1 x2 y0 iv g_there g_elements g_rankOf g_order g_sizes H locs ls hP hD hS hl hw
    unfold w127_L41 at hw
    rw [← hQ]
    exact W.iret (v := y0) hx hb hr (fun t ht hW => ⟨⟨y0, (iv, g_there, g_elements, g_rankOf, g_order, g_sizes), rfl, hw, by rw [ht]; exact hP, va_K.moved hW.alike hK, hD⟩, hS.F ht⟩) hS.2.2 px_d127_41
  have S40 : ∀ (x1 : Int32) (x2 : Int32) (iv : Nat → Int32) (g_there : Nat → Int32) (g_elements : Nat → Int32) (g_rankOf : Nat → Int32) (g_order : Nat → Int32) (g_sizes : Nat → Int32) (H : Heap) (locs : List Loc) (ls : Array Slot), va_P (dC, dI) vwCl [(h0, .inr (8, px_mf rf iv)), (rf 18, .inl (c_there, 26, .inl g_there)), (rf 19, .inl (c_elements, 26, .inl g_elements)), (rf 25, .inl (c_rankOf, 106496, .inl g_rankOf)), (rf 27, .inl (c_order, 4096, .inl g_order)), (rf 28, .inl (c_sizes, 4096, .inl g_sizes))] H → va_D A [(h0, .inr (8, px_mf rf iv)), (rf 18, .inl (c_there, 26, .inl g_there)), (rf 19, .inl (c_elements, 26, .inl g_elements)), (rf 25, .inl (c_rankOf, 106496, .inl g_rankOf)), (rf 27, .inl (c_order, 4096, .inl g_order)), (rf 28, .inl (c_sizes, 4096, .inl g_sizes))] → va_S A s.heap H locs → lv_has ls 3 [(0, .ref h0), (1, .int x1), (2, .int x2)] → w127_L40 post x1 x2 iv g_there g_elements g_rankOf g_order g_sizes → W p l e (headSpec px_s127 ({ frames := 3, cells := 0, slots := 0, locals := 69 })).room s m ([.ref h0, .int a1x, .int a2x]).toArray below meth c H locs 0 0 Q (F0 m 40 ls []) := by
    intro x1 x2 iv g_there g_elements g_rankOf g_order g_sizes H locs ls hP hD hS hl hw
    unfold w127_L40 at hw
    refine lv_iconst (v := (-1)) hx hb px_d127_40 (by decide) ?_
    exact S41 x1 x2 (-1) iv g_there g_elements g_rankOf g_order g_sizes H locs ls hP hD hS (lv_sub hl [0, 1, 2] rfl) hw
  unfold w127_wp at hw
  have hS0 := hS
  obtain ⟨H, hH9⟩ : ∃ z, z = s.heap := ⟨_, rfl⟩
  have hP : va_P (dC, dI) vwCl [(h0, .inr (8, px_mf rf iv)), (rf 18, .inl (c_there, 26, .inl g_there)), (rf 19, .inl (c_elements, 26, .inl g_elements)), (rf 25, .inl (c_rankOf, 106496, .inl g_rankOf)), (rf 27, .inl (c_order, 4096, .inl g_order)), (rf 28, .inl (c_sizes, 4096, .inl g_sizes))] H := by rw [hH9]; exact hP
  obtain ⟨locs, hlo9⟩ : ∃ z : List Loc, z = [] := ⟨_, rfl⟩
  have hS : va_S A s.heap H locs := by rw [hH9, hlo9]; exact hS
  suffices hG : W p l e (headSpec px_s127 ({ frames := 3, cells := 0, slots := 0, locals := 69 })).room s m ([.ref h0, .int a1x, .int a2x]).toArray below meth c H locs 0 0 Q (F0 m 0 ls []) by rw [hH9, hlo9] at hG; exact hG
  refine lv_aload_n hx hb px_d127_0 rfl (lv_at hl 0 rfl) ?_
  refine lv_iload_n hx hb px_d127_1 rfl (lv_at hl 1 rfl) ?_
  have hPc := hP.sub (ws' := [(h0, .inr (8, px_mf rf iv)), (rf 18, .inl (c_there, 26, .inl g_there))]) [0, 1] rfl
  have hDc := hD.sub (ws' := [(h0, .inr (8, px_mf rf iv)), (rf 18, .inl (c_there, 26, .inl g_there))]) [0, 1] (by decide) rfl
  have hKc := hK.sub (tys' := [(c_there, .boolean)]) [0] rfl
  have hFc := va_free (wc := [(h0, .inr (8, px_mf rf iv)), (rf 18, .inl (c_there, 26, .inl g_there))]) hD hS hA [0, 1] rfl
  refine va_calli (va_runV (As := [.int a1x]) (rest := []) ⟨hx, hb, hml, hown, htw⟩ (w118_met l dC dI H.size h0 rf c_there a1x iv g_there _ hw) (cwV 1 htw (px_gv px_w764 px_w759 px_w760 px_w94 px_g118) rfl rfl rfl (by decide +kernel) ⟨Nat.le_of_ble_eq_true rfl, Nat.le_of_ble_eq_true rfl⟩) ⟨fun a U g mk q => by obtain ⟨q0, q1, qP, qK, qD, qN⟩ := q; exact ⟨q0, q1, qP, va_K.moved (u := U) (U := U.calling g mk a) (Vm.Alike.refl U.vm) qK, qD, qN.same rfl⟩, va_recv hK hP (ci := 8) (q0 := 0) rfl rfl, fun U hU hW => ⟨rfl, by rw [hU], by rw [hU]; exact hPc, va_K.moved hW.alike hKc, hDc.weaken (fun _ _ _ _ => trivial), hN.warm hW⟩⟩ rfl rfl hl.1 rfl (lv_room (Nat.le_of_ble_eq_true rfl)) px_d127_2 ⟨(Nat.le_of_ble_eq_true rfl), (Nat.le_of_ble_eq_true rfl)⟩) hS (fun q _ h => hFc q h) hFc (fun r2 u t H1 locs ht hvm hw hB hz1 hk1 hS => ?_)
  obtain ⟨v1, v2⟩ := u
  obtain ⟨hP1, hK1, hD1⟩ := hB
  rw [ht] at hP1
  have hK1 := va_K.moved hvm.symm hK1
  obtain ⟨hP, hD⟩ := va_join (wr := [(rf 19, .inl (c_elements, 26, .inl g_elements)), (rf 25, .inl (c_rankOf, 106496, .inl g_rankOf)), (rf 27, .inl (c_order, 4096, .inl g_order)), (rf 28, .inl (c_sizes, 4096, .inl g_sizes))]) (w1 := [(h0, .inr (8, px_mf rf v1)), (rf 18, .inl (c_there, 26, .inl v2))]) hP hD [0, 1] [2, 3, 4, 5] rfl rfl (by decide) (by decide) hk1 hFc hP1 hD1
  generalize H1 = H at hP hS ⊢
  have hP : va_P (dC, dI) vwCl [(rf 19, .inl (c_elements, 26, .inl g_elements)), (rf 25, .inl (c_rankOf, 106496, .inl g_rankOf)), (rf 27, .inl (c_order, 4096, .inl g_order)), (rf 28, .inl (c_sizes, 4096, .inl g_sizes)), (h0, .inr (8, px_mf rf v1)), (rf 18, .inl (c_there, 26, .inl v2))] H := hP
  have hD : va_D A [(rf 19, .inl (c_elements, 26, .inl g_elements)), (rf 25, .inl (c_rankOf, 106496, .inl g_rankOf)), (rf 27, .inl (c_order, 4096, .inl g_order)), (rf 28, .inl (c_sizes, 4096, .inl g_sizes)), (h0, .inr (8, px_mf rf v1)), (rf 18, .inl (c_there, 26, .inl v2))] := hD
  have hP := hP.sub (ws' := [(h0, .inr (8, px_mf rf v1)), (rf 18, .inl (c_there, 26, .inl v2)), (rf 19, .inl (c_elements, 26, .inl g_elements)), (rf 25, .inl (c_rankOf, 106496, .inl g_rankOf)), (rf 27, .inl (c_order, 4096, .inl g_order)), (rf 28, .inl (c_sizes, 4096, .inl g_sizes))]) [4, 5, 0, 1, 2, 3] rfl
  have hD := hD.sub (ws' := [(h0, .inr (8, px_mf rf v1)), (rf 18, .inl (c_there, 26, .inl v2)), (rf 19, .inl (c_elements, 26, .inl g_elements)), (rf 25, .inl (c_rankOf, 106496, .inl g_rankOf)), (rf 27, .inl (c_order, 4096, .inl g_order)), (rf 28, .inl (c_sizes, 4096, .inl g_sizes))]) [4, 5, 0, 1, 2, 3] (by decide) rfl
  refine lv_if_eq (tgt := 40) hx hb px_d127_5 (by decide) (fun c5 => ?_) (fun c5 => ?_)
  · have hw := hw.1 c5
    exact S40 a1x a2x v1 v2 g_elements g_rankOf g_order g_sizes H locs ls hP hD hS (lv_sub hl [0, 1, 2] rfl) hw
  · have hw := hw.2 c5
    refine lv_aload_n hx hb px_d127_8 rfl (lv_at hl 0 rfl) ?_
    refine lv_iload_n hx hb px_d127_9 rfl (lv_at hl 2 rfl) ?_
    have hPc := hP.sub (ws' := [(h0, .inr (8, px_mf rf v1)), (rf 18, .inl (c_there, 26, .inl v2))]) [0, 1] rfl
    have hDc := hD.sub (ws' := [(h0, .inr (8, px_mf rf v1)), (rf 18, .inl (c_there, 26, .inl v2))]) [0, 1] (by decide) rfl
    have hKc := hK.sub (tys' := [(c_there, .boolean)]) [0] rfl
    have hFc := va_free (wc := [(h0, .inr (8, px_mf rf v1)), (rf 18, .inl (c_there, 26, .inl v2))]) hD hS hA [0, 1] rfl
    refine va_calli (va_runV (As := [.int a2x]) (rest := []) ⟨hx, hb, hml, hown, htw⟩ (w118_met l dC dI H.size h0 rf c_there a2x v1 v2 _ hw) (cwV 1 htw (px_gv px_w764 px_w759 px_w760 px_w94 px_g118) rfl rfl rfl (by decide +kernel) ⟨Nat.le_of_ble_eq_true rfl, Nat.le_of_ble_eq_true rfl⟩) ⟨fun a U g mk q => by obtain ⟨q0, q1, qP, qK, qD, qN⟩ := q; exact ⟨q0, q1, qP, va_K.moved (u := U) (U := U.calling g mk a) (Vm.Alike.refl U.vm) qK, qD, qN.same rfl⟩, va_recv hK hP (ci := 8) (q0 := 0) rfl rfl, fun U hU hW => ⟨rfl, by rw [hU], by rw [hU]; exact hPc, va_K.moved hW.alike hKc, hDc.weaken (fun _ _ _ _ => trivial), hN.warm hW⟩⟩ rfl rfl hl.1 rfl (lv_room (Nat.le_of_ble_eq_true rfl)) px_d127_10 ⟨(Nat.le_of_ble_eq_true rfl), (Nat.le_of_ble_eq_true rfl)⟩) hS (fun q _ h => hFc q h) hFc (fun r10 u t H1 locs ht hvm hw hB hz1 hk1 hS => ?_)
    obtain ⟨v3, v4⟩ := u
    obtain ⟨hP1, hK1, hD1⟩ := hB
    rw [ht] at hP1
    have hK1 := va_K.moved hvm.symm hK1
    obtain ⟨hP, hD⟩ := va_join (wr := [(rf 19, .inl (c_elements, 26, .inl g_elements)), (rf 25, .inl (c_rankOf, 106496, .inl g_rankOf)), (rf 27, .inl (c_order, 4096, .inl g_order)), (rf 28, .inl (c_sizes, 4096, .inl g_sizes))]) (w1 := [(h0, .inr (8, px_mf rf v3)), (rf 18, .inl (c_there, 26, .inl v4))]) hP hD [0, 1] [2, 3, 4, 5] rfl rfl (by decide) (by decide) hk1 hFc hP1 hD1
    generalize H1 = H at hP hS ⊢
    have hP : va_P (dC, dI) vwCl [(rf 19, .inl (c_elements, 26, .inl g_elements)), (rf 25, .inl (c_rankOf, 106496, .inl g_rankOf)), (rf 27, .inl (c_order, 4096, .inl g_order)), (rf 28, .inl (c_sizes, 4096, .inl g_sizes)), (h0, .inr (8, px_mf rf v3)), (rf 18, .inl (c_there, 26, .inl v4))] H := hP
    have hD : va_D A [(rf 19, .inl (c_elements, 26, .inl g_elements)), (rf 25, .inl (c_rankOf, 106496, .inl g_rankOf)), (rf 27, .inl (c_order, 4096, .inl g_order)), (rf 28, .inl (c_sizes, 4096, .inl g_sizes)), (h0, .inr (8, px_mf rf v3)), (rf 18, .inl (c_there, 26, .inl v4))] := hD
    have hP := hP.sub (ws' := [(h0, .inr (8, px_mf rf v3)), (rf 18, .inl (c_there, 26, .inl v4)), (rf 19, .inl (c_elements, 26, .inl g_elements)), (rf 25, .inl (c_rankOf, 106496, .inl g_rankOf)), (rf 27, .inl (c_order, 4096, .inl g_order)), (rf 28, .inl (c_sizes, 4096, .inl g_sizes))]) [4, 5, 0, 1, 2, 3] rfl
    have hD := hD.sub (ws' := [(h0, .inr (8, px_mf rf v3)), (rf 18, .inl (c_there, 26, .inl v4)), (rf 19, .inl (c_elements, 26, .inl g_elements)), (rf 25, .inl (c_rankOf, 106496, .inl g_rankOf)), (rf 27, .inl (c_order, 4096, .inl g_order)), (rf 28, .inl (c_sizes, 4096, .inl g_sizes))]) [4, 5, 0, 1, 2, 3] (by decide) rfl
    refine lv_if_eq (tgt := 40) hx hb px_d127_13 (by decide) (fun c13 => ?_) (fun c13 => ?_)
    · have hw := hw.1 c13
      exact S40 a1x a2x v3 v4 g_elements g_rankOf g_order g_sizes H locs ls hP hD hS (lv_sub hl [0, 1, 2] rfl) hw
    · have hw := hw.2 c13
      refine lv_aload_n hx hb px_d127_16 rfl (lv_at hl 0 rfl) ?_
      refine va_get (D := (dC, dI)) (ci := 8) (v := .ref (rf 19)) (C := "MatroidDeskModel") (T := px_T8) (N := 53) hx hb htw px_in8 hown hK hP 0 rfl rfl 19 (by decide) (htw _ px_w502) (fun _ h9 => h9) rfl px_d127_17 ?_
      refine lv_iload_n hx hb px_d127_20 rfl (lv_at hl 1 rfl) ?_
      obtain ⟨hi21, hw⟩ := hw
      refine va_iald hx hb hK hP 2 1 rfl rfl hi21 px_d127_21 ?_
      refine lv_aload_n hx hb px_d127_22 rfl (lv_at hl 0 rfl) ?_
      refine va_get (D := (dC, dI)) (ci := 8) (v := .ref (rf 19)) (C := "MatroidDeskModel") (T := px_T8) (N := 53) hx hb htw px_in8 hown hK hP 0 rfl rfl 19 (by decide) (htw _ px_w502) (fun _ h9 => h9) rfl px_d127_23 ?_
      refine lv_iload_n hx hb px_d127_26 rfl (lv_at hl 2 rfl) ?_
      obtain ⟨hi27, hw⟩ := hw
      refine va_iald hx hb hK hP 2 1 rfl rfl hi27 px_d127_27 ?_
      refine lv_icmp_ne (tgt := 40) hx hb px_d127_28 (by decide) (fun c28 => ?_) (fun c28 => ?_)
      · have hw := hw.1 c28
        exact S40 a1x a2x v3 v4 g_elements g_rankOf g_order g_sizes H locs ls hP hD hS (lv_sub hl [0, 1, 2] rfl) hw
      · have hw := hw.2 c28
        refine lv_aload_n hx hb px_d127_31 rfl (lv_at hl 0 rfl) ?_
        refine lv_iload_n hx hb px_d127_32 rfl (lv_at hl 1 rfl) ?_
        refine lv_iload_n hx hb px_d127_33 rfl (lv_at hl 2 rfl) ?_
        have hPc := hP.sub (ws' := [(h0, .inr (8, px_mf rf v3)), (rf 19, .inl (c_elements, 26, .inl g_elements)), (rf 25, .inl (c_rankOf, 106496, .inl g_rankOf)), (rf 27, .inl (c_order, 4096, .inl g_order)), (rf 28, .inl (c_sizes, 4096, .inl g_sizes))]) [0, 2, 3, 4, 5] rfl
        have hDc := hD.sub (ws' := [(h0, .inr (8, px_mf rf v3)), (rf 19, .inl (c_elements, 26, .inl g_elements)), (rf 25, .inl (c_rankOf, 106496, .inl g_rankOf)), (rf 27, .inl (c_order, 4096, .inl g_order)), (rf 28, .inl (c_sizes, 4096, .inl g_sizes))]) [0, 2, 3, 4, 5] (by decide) rfl
        have hKc := hK.sub (tys' := [(c_elements, .int), (c_rankOf, .byte), (c_order, .int), (c_sizes, .int)]) [1, 2, 3, 4] rfl
        have hFc := va_free (wc := [(h0, .inr (8, px_mf rf v3)), (rf 19, .inl (c_elements, 26, .inl g_elements)), (rf 25, .inl (c_rankOf, 106496, .inl g_rankOf)), (rf 27, .inl (c_order, 4096, .inl g_order)), (rf 28, .inl (c_sizes, 4096, .inl g_sizes))]) hD hS hA [0, 2, 3, 4, 5] rfl
        refine va_calli (va_runV (As := [.int a1x, .int a2x]) (rest := []) ⟨hx, hb, hml, hown, htw⟩ (w81_met l dC dI H.size h0 rf c_elements c_rankOf c_order c_sizes a1x a2x v3 g_elements g_rankOf g_order g_sizes _ hw) (cwV 2 htw (px_gv px_w598 px_w593 px_w594 px_w94 px_g81) rfl rfl rfl (by decide +kernel) ⟨Nat.le_of_ble_eq_true rfl, Nat.le_of_ble_eq_true rfl⟩) ⟨fun a U g mk q => by obtain ⟨q0, q1, qP, qK, qD, qN⟩ := q; exact ⟨q0, q1, qP, va_K.moved (u := U) (U := U.calling g mk a) (Vm.Alike.refl U.vm) qK, qD, qN.same rfl⟩, va_recv hK hP (ci := 8) (q0 := 0) rfl rfl, fun U hU hW => ⟨rfl, by rw [hU], by rw [hU]; exact hPc, va_K.moved hW.alike hKc, hDc.weaken (fun _ _ _ _ => trivial), hN.warm hW⟩⟩ rfl rfl hl.1 rfl (lv_room (Nat.le_of_ble_eq_true rfl)) px_d127_34 ⟨(Nat.le_of_ble_eq_true rfl), (Nat.le_of_ble_eq_true rfl)⟩) hS (fun q _ h => hFc q h) hFc (fun r34 u t H1 locs ht hvm hw hB hz1 hk1 hS => ?_)
        obtain ⟨v5, v6, v7, v8, v9⟩ := u
        obtain ⟨hP1, hK1, hD1⟩ := hB
        rw [ht] at hP1
        have hK1 := va_K.moved hvm.symm hK1
        obtain ⟨hP, hD⟩ := va_join (wr := [(rf 18, .inl (c_there, 26, .inl v4))]) (w1 := [(h0, .inr (8, px_mf rf v5)), (rf 19, .inl (c_elements, 26, .inl v6)), (rf 25, .inl (c_rankOf, 106496, .inl v7)), (rf 27, .inl (c_order, 4096, .inl v8)), (rf 28, .inl (c_sizes, 4096, .inl v9))]) hP hD [0, 2, 3, 4, 5] [1] rfl rfl (by decide) (by decide) hk1 hFc hP1 hD1
        generalize H1 = H at hP hS ⊢
        have hP : va_P (dC, dI) vwCl [(rf 18, .inl (c_there, 26, .inl v4)), (h0, .inr (8, px_mf rf v5)), (rf 19, .inl (c_elements, 26, .inl v6)), (rf 25, .inl (c_rankOf, 106496, .inl v7)), (rf 27, .inl (c_order, 4096, .inl v8)), (rf 28, .inl (c_sizes, 4096, .inl v9))] H := hP
        have hD : va_D A [(rf 18, .inl (c_there, 26, .inl v4)), (h0, .inr (8, px_mf rf v5)), (rf 19, .inl (c_elements, 26, .inl v6)), (rf 25, .inl (c_rankOf, 106496, .inl v7)), (rf 27, .inl (c_order, 4096, .inl v8)), (rf 28, .inl (c_sizes, 4096, .inl v9))] := hD
        have hP := hP.sub (ws' := [(h0, .inr (8, px_mf rf v5)), (rf 18, .inl (c_there, 26, .inl v4)), (rf 19, .inl (c_elements, 26, .inl v6)), (rf 25, .inl (c_rankOf, 106496, .inl v7)), (rf 27, .inl (c_order, 4096, .inl v8)), (rf 28, .inl (c_sizes, 4096, .inl v9))]) [1, 0, 2, 3, 4, 5] rfl
        have hD := hD.sub (ws' := [(h0, .inr (8, px_mf rf v5)), (rf 18, .inl (c_there, 26, .inl v4)), (rf 19, .inl (c_elements, 26, .inl v6)), (rf 25, .inl (c_rankOf, 106496, .inl v7)), (rf 27, .inl (c_order, 4096, .inl v8)), (rf 28, .inl (c_sizes, 4096, .inl v9))]) [1, 0, 2, 3, 4, 5] (by decide) rfl
        refine lv_goto (tgt := 41) hx hb px_d127_37 (by decide) ?_
        exact S41 a1x a2x r34 v5 v4 v6 v7 v8 v9 H locs ls hP hD hS (lv_sub hl [0, 1, 2] rfl) hw

/-! MatroidDeskModel.cover(II)I -/
def w128_L41 (post : Int32 → (Nat → Int32) → (Nat → Int32) → (Nat → Int32) → (Nat → Int32) → (Nat → Int32) → (Nat → Int32) → Prop) (x1 : Int32) (x2 : Int32) (y0 : Int32) (iv : Nat → Int32) (g_there : Nat → Int32) (g_elements : Nat → Int32) (g_rankOf : Nat → Int32) (g_order : Nat → Int32) (g_sizes : Nat → Int32) : Prop := post y0 iv g_there g_elements g_rankOf g_order g_sizes
def w128_L40 (post : Int32 → (Nat → Int32) → (Nat → Int32) → (Nat → Int32) → (Nat → Int32) → (Nat → Int32) → (Nat → Int32) → Prop) (x1 : Int32) (x2 : Int32) (iv : Nat → Int32) (g_there : Nat → Int32) (g_elements : Nat → Int32) (g_rankOf : Nat → Int32) (g_order : Nat → Int32) (g_sizes : Nat → Int32) : Prop := w128_L41 post x1 x2 (-1) iv g_there g_elements g_rankOf g_order g_sizes
def w128_wp (post : Int32 → (Nat → Int32) → (Nat → Int32) → (Nat → Int32) → (Nat → Int32) → (Nat → Int32) → (Nat → Int32) → Prop) (a1x : Int32) (a2x : Int32) (iv : Nat → Int32) (g_there : Nat → Int32) (g_elements : Nat → Int32) (g_rankOf : Nat → Int32) (g_order : Nat → Int32) (g_sizes : Nat → Int32) : Prop := w118_wp (fun r2 v1 v2 => (r2 = 0 → w128_L40 post a1x a2x v1 v2 g_elements g_rankOf g_order g_sizes) ∧ (¬ r2 = 0 → w118_wp (fun r10 v3 v4 => (r10 = 0 → w128_L40 post a1x a2x v3 v4 g_elements g_rankOf g_order g_sizes) ∧ (¬ r10 = 0 → vp_in a1x 26 ∧ (vp_in a2x 26 ∧ ((¬ (g_elements (Int32.toNatClampNeg a1x)) = (g_elements (Int32.toNatClampNeg a2x)) → w128_L40 post a1x a2x v3 v4 g_elements g_rankOf g_order g_sizes) ∧ ((g_elements (Int32.toNatClampNeg a1x)) = (g_elements (Int32.toNatClampNeg a2x)) → w82_wp (fun r34 v5 v6 v7 v8 v9 => w128_L41 post a1x a2x r34 v5 v4 v6 v7 v8 v9) a1x a2x v3 g_elements g_rankOf g_order g_sizes))))) a2x v1 v2)) a1x iv g_there
set_option maxHeartbeats 8000000 in
set_option maxRecDepth 100000 in
theorem w128_met (l : Launch) (dC : Nat → ClassId) (dI : Nat → Nat → Nat) (sz : Nat) (h0 : Nat) (rf : Nat → Nat) (c_there : ClassId) (c_elements : ClassId) (c_rankOf : ClassId) (c_order : ClassId) (c_sizes : ClassId) (a1x : Int32) (a2x : Int32) (iv : Nat → Int32) (g_there : Nat → Int32) (g_elements : Nat → Int32) (g_rankOf : Nat → Int32) (g_order : Nat → Int32) (g_sizes : Nat → Int32) (post : Int32 → (Nat → Int32) → (Nat → Int32) → (Nat → Int32) → (Nat → Int32) → (Nat → Int32) → (Nat → Int32) → Prop) (hw : w128_wp post a1x a2x iv g_there g_elements g_rankOf g_order g_sizes) : Met l px_y128 px_s128 ({ frames := 4, cells := 0, slots := 0, locals := 95 }) (va_Pc [.ref h0, .int a1x, .int a2x] (fun U => U.heap.size = sz ∧ va_P (dC, dI) vwCl [(h0, .inr (8, px_mf rf iv)), (rf 18, .inl (c_there, 26, .inl g_there)), (rf 19, .inl (c_elements, 26, .inl g_elements)), (rf 25, .inl (c_rankOf, 106496, .inl g_rankOf)), (rf 27, .inl (c_order, 4096, .inl g_order)), (rf 28, .inl (c_sizes, 4096, .inl g_sizes))] U.heap ∧ va_K (dC, dI) vwCl [(c_there, .boolean), (c_elements, .int), (c_rankOf, .byte), (c_order, .int), (c_sizes, .int)] U ∧ va_D (fun _ => True) [(h0, .inr (8, px_mf rf iv)), (rf 18, .inl (c_there, 26, .inl g_there)), (rf 19, .inl (c_elements, 26, .inl g_elements)), (rf 25, .inl (c_rankOf, 106496, .inl g_rankOf)), (rf 27, .inl (c_order, 4096, .inl g_order)), (rf 28, .inl (c_sizes, 4096, .inl g_sizes))] ∧ px_N U)) (va_Qi (fun (r : Int32) (u : (Nat → Int32) × (Nat → Int32) × (Nat → Int32) × (Nat → Int32) × (Nat → Int32) × (Nat → Int32)) => post r u.1 u.2.1 u.2.2.1 u.2.2.2.1 u.2.2.2.2.1 u.2.2.2.2.2) (fun (u : (Nat → Int32) × (Nat → Int32) × (Nat → Int32) × (Nat → Int32) × (Nat → Int32) × (Nat → Int32)) (t : State) => va_P (dC, dI) vwCl [(h0, .inr (8, px_mf rf u.1)), (rf 18, .inl (c_there, 26, .inl u.2.1)), (rf 19, .inl (c_elements, 26, .inl u.2.2.1)), (rf 25, .inl (c_rankOf, 106496, .inl u.2.2.2.1)), (rf 27, .inl (c_order, 4096, .inl u.2.2.2.2.1)), (rf 28, .inl (c_sizes, 4096, .inl u.2.2.2.2.2))] t.heap ∧ va_K (dC, dI) vwCl [(c_there, .boolean), (c_elements, .int), (c_rankOf, .byte), (c_order, .int), (c_sizes, .int)] t ∧ va_D (va_A [(h0, .inr (8, px_mf rf iv)), (rf 18, .inl (c_there, 26, .inl g_there)), (rf 19, .inl (c_elements, 26, .inl g_elements)), (rf 25, .inl (c_rankOf, 106496, .inl g_rankOf)), (rf 27, .inl (c_order, 4096, .inl g_order)), (rf 28, .inl (c_sizes, 4096, .inl g_sizes))] sz) [(h0, .inr (8, px_mf rf u.1)), (rf 18, .inl (c_there, 26, .inl u.2.1)), (rf 19, .inl (c_elements, 26, .inl u.2.2.1)), (rf 25, .inl (c_rankOf, 106496, .inl u.2.2.2.1)), (rf 27, .inl (c_order, 4096, .inl u.2.2.2.2.1)), (rf 28, .inl (c_sizes, 4096, .inl u.2.2.2.2.2))]) (va_A [(h0, .inr (8, px_mf rf iv)), (rf 18, .inl (c_there, 26, .inl g_there)), (rf 19, .inl (c_elements, 26, .inl g_elements)), (rf 25, .inl (c_rankOf, 106496, .inl g_rankOf)), (rf 27, .inl (c_order, 4096, .inl g_order)), (rf 28, .inl (c_sizes, 4096, .inl g_sizes))] sz)) 0 0 (va_A [(h0, .inr (8, px_mf rf iv)), (rf 18, .inl (c_there, 26, .inl g_there)), (rf 19, .inl (c_elements, 26, .inl g_elements)), (rf 25, .inl (c_rankOf, 106496, .inl g_rankOf)), (rf 27, .inl (c_order, 4096, .inl g_order)), (rf 28, .inl (c_sizes, 4096, .inl g_sizes))] sz) := by
  refine Met.ofW (cc := prog_15_method_107_code) (maxL := 3) (ret := (some .int)) (by decide) rfl ?_
  intro p e s m args below meth c s₁ B hml hv
  obtain ⟨rfl, hsz, hP, hK, hD0, hN⟩ := hv
  have hx := B.exec
  have hb := B.bytes
  have hr := B.returns
  have htw : ∀ w ∈ px_all, w.before _ s = true := fun w h => atoms_spec (ws := px_s128) B.pre w (List.mem_cons_of_mem _ h)
  have hown : s.vm.findClass "MatroidDeskModel" = some m.cls := findClass_of_methodNamed B.named
  have hlocks := B.notSynchronized
  subst hsz
  have hD := hD0.self (sz := s.heap.size)
  generalize hAe : va_A [(h0, .inr (8, px_mf rf iv)), (rf 18, .inl (c_there, 26, .inl g_there)), (rf 19, .inl (c_elements, 26, .inl g_elements)), (rf 25, .inl (c_rankOf, 106496, .inl g_rankOf)), (rf 27, .inl (c_order, 4096, .inl g_order)), (rf 28, .inl (c_sizes, 4096, .inl g_sizes))] s.heap.size = A at hD ⊢
  have hA : ∀ q : Nat, s.heap.size ≤ q → A q := fun q h => by rw [← hAe]; exact Or.inr h
  have hS : va_S A s.heap s.heap [] := va_S.rf
  have hP : va_P (dC, dI) vwCl [(h0, .inr (8, px_mf rf iv)), (rf 18, .inl (c_there, 26, .inl g_there)), (rf 19, .inl (c_elements, 26, .inl g_elements)), (rf 25, .inl (c_rankOf, 106496, .inl g_rankOf)), (rf 27, .inl (c_order, 4096, .inl g_order)), (rf 28, .inl (c_sizes, 4096, .inl g_sizes))] s.heap := hP
  have hl := lv_entry ([.ref h0, .int a1x, .int a2x]) (n := 3) (Nat.le_of_ble_eq_true rfl)
  rw [lg_entry_eq]
  generalize (lg_sl ([.ref h0, .int a1x, .int a2x]) ++ List.replicate (3 - (lg_sl ([.ref h0, .int a1x, .int a2x])).length) Slot.unset).toArray = ls at hl ⊢
  have hl : lv_has ls 3 [(0, .ref h0), (1, .int a1x), (2, .int a2x)] := hl
  generalize hQ : MQ _ _ _ _ _ _ _ = Q
  have S41 : ∀ (x1 : Int32) (x2 : Int32) (y0 : Int32) (iv : Nat → Int32) (g_there : Nat → Int32) (g_elements : Nat → Int32) (g_rankOf : Nat → Int32) (g_order : Nat → Int32) (g_sizes : Nat → Int32) (H : Heap) (locs : List Loc) (ls : Array Slot), va_P (dC, dI) vwCl [(h0, .inr (8, px_mf rf iv)), (rf 18, .inl (c_there, 26, .inl g_there)), (rf 19, .inl (c_elements, 26, .inl g_elements)), (rf 25, .inl (c_rankOf, 106496, .inl g_rankOf)), (rf 27, .inl (c_order, 4096, .inl g_order)), (rf 28, .inl (c_sizes, 4096, .inl g_sizes))] H → va_D A [(h0, .inr (8, px_mf rf iv)), (rf 18, .inl (c_there, 26, .inl g_there)), (rf 19, .inl (c_elements, 26, .inl g_elements)), (rf 25, .inl (c_rankOf, 106496, .inl g_rankOf)), (rf 27, .inl (c_order, 4096, .inl g_order)), (rf 28, .inl (c_sizes, 4096, .inl g_sizes))] → va_S A s.heap H locs → lv_has ls 3 [(0, .ref h0), (1, .int x1), (2, .int x2)] → w128_L41 post x1 x2 y0 iv g_there g_elements g_rankOf g_order g_sizes → W p l e (headSpec px_s128 ({ frames := 4, cells := 0, slots := 0, locals := 95 })).room s m ([.ref h0, .int a1x, .int a2x]).toArray below meth c H locs 0 0 Q (F0 m 41 ls [.int y0]) := by
    intro x1 x2 y0 iv g_there g_elements g_rankOf g_order g_sizes H locs ls hP hD hS hl hw
    unfold w128_L41 at hw
    rw [← hQ]
    exact W.iret (v := y0) hx hb hr (fun t ht hW => ⟨⟨y0, (iv, g_there, g_elements, g_rankOf, g_order, g_sizes), rfl, hw, by rw [ht]; exact hP, va_K.moved hW.alike hK, hD⟩, hS.F ht⟩) hS.2.2 px_d128_41
  have S40 : ∀ (x1 : Int32) (x2 : Int32) (iv : Nat → Int32) (g_there : Nat → Int32) (g_elements : Nat → Int32) (g_rankOf : Nat → Int32) (g_order : Nat → Int32) (g_sizes : Nat → Int32) (H : Heap) (locs : List Loc) (ls : Array Slot), va_P (dC, dI) vwCl [(h0, .inr (8, px_mf rf iv)), (rf 18, .inl (c_there, 26, .inl g_there)), (rf 19, .inl (c_elements, 26, .inl g_elements)), (rf 25, .inl (c_rankOf, 106496, .inl g_rankOf)), (rf 27, .inl (c_order, 4096, .inl g_order)), (rf 28, .inl (c_sizes, 4096, .inl g_sizes))] H → va_D A [(h0, .inr (8, px_mf rf iv)), (rf 18, .inl (c_there, 26, .inl g_there)), (rf 19, .inl (c_elements, 26, .inl g_elements)), (rf 25, .inl (c_rankOf, 106496, .inl g_rankOf)), (rf 27, .inl (c_order, 4096, .inl g_order)), (rf 28, .inl (c_sizes, 4096, .inl g_sizes))] → va_S A s.heap H locs → lv_has ls 3 [(0, .ref h0), (1, .int x1), (2, .int x2)] → w128_L40 post x1 x2 iv g_there g_elements g_rankOf g_order g_sizes → W p l e (headSpec px_s128 ({ frames := 4, cells := 0, slots := 0, locals := 95 })).room s m ([.ref h0, .int a1x, .int a2x]).toArray below meth c H locs 0 0 Q (F0 m 40 ls []) := by
    intro x1 x2 iv g_there g_elements g_rankOf g_order g_sizes H locs ls hP hD hS hl hw
    unfold w128_L40 at hw
    refine lv_iconst (v := (-1)) hx hb px_d128_40 (by decide) ?_
    exact S41 x1 x2 (-1) iv g_there g_elements g_rankOf g_order g_sizes H locs ls hP hD hS (lv_sub hl [0, 1, 2] rfl) hw
  unfold w128_wp at hw
  have hS0 := hS
  obtain ⟨H, hH9⟩ : ∃ z, z = s.heap := ⟨_, rfl⟩
  have hP : va_P (dC, dI) vwCl [(h0, .inr (8, px_mf rf iv)), (rf 18, .inl (c_there, 26, .inl g_there)), (rf 19, .inl (c_elements, 26, .inl g_elements)), (rf 25, .inl (c_rankOf, 106496, .inl g_rankOf)), (rf 27, .inl (c_order, 4096, .inl g_order)), (rf 28, .inl (c_sizes, 4096, .inl g_sizes))] H := by rw [hH9]; exact hP
  obtain ⟨locs, hlo9⟩ : ∃ z : List Loc, z = [] := ⟨_, rfl⟩
  have hS : va_S A s.heap H locs := by rw [hH9, hlo9]; exact hS
  suffices hG : W p l e (headSpec px_s128 ({ frames := 4, cells := 0, slots := 0, locals := 95 })).room s m ([.ref h0, .int a1x, .int a2x]).toArray below meth c H locs 0 0 Q (F0 m 0 ls []) by rw [hH9, hlo9] at hG; exact hG
  refine lv_aload_n hx hb px_d128_0 rfl (lv_at hl 0 rfl) ?_
  refine lv_iload_n hx hb px_d128_1 rfl (lv_at hl 1 rfl) ?_
  have hPc := hP.sub (ws' := [(h0, .inr (8, px_mf rf iv)), (rf 18, .inl (c_there, 26, .inl g_there))]) [0, 1] rfl
  have hDc := hD.sub (ws' := [(h0, .inr (8, px_mf rf iv)), (rf 18, .inl (c_there, 26, .inl g_there))]) [0, 1] (by decide) rfl
  have hKc := hK.sub (tys' := [(c_there, .boolean)]) [0] rfl
  have hFc := va_free (wc := [(h0, .inr (8, px_mf rf iv)), (rf 18, .inl (c_there, 26, .inl g_there))]) hD hS hA [0, 1] rfl
  refine va_calli (va_runV (As := [.int a1x]) (rest := []) ⟨hx, hb, hml, hown, htw⟩ (w118_met l dC dI H.size h0 rf c_there a1x iv g_there _ hw) (cwV 1 htw (px_gv px_w764 px_w759 px_w760 px_w94 px_g118) rfl rfl rfl (by decide +kernel) ⟨Nat.le_of_ble_eq_true rfl, Nat.le_of_ble_eq_true rfl⟩) ⟨fun a U g mk q => by obtain ⟨q0, q1, qP, qK, qD, qN⟩ := q; exact ⟨q0, q1, qP, va_K.moved (u := U) (U := U.calling g mk a) (Vm.Alike.refl U.vm) qK, qD, qN.same rfl⟩, va_recv hK hP (ci := 8) (q0 := 0) rfl rfl, fun U hU hW => ⟨rfl, by rw [hU], by rw [hU]; exact hPc, va_K.moved hW.alike hKc, hDc.weaken (fun _ _ _ _ => trivial), hN.warm hW⟩⟩ rfl rfl hl.1 rfl (lv_room (Nat.le_of_ble_eq_true rfl)) px_d128_2 ⟨(Nat.le_of_ble_eq_true rfl), (Nat.le_of_ble_eq_true rfl)⟩) hS (fun q _ h => hFc q h) hFc (fun r2 u t H1 locs ht hvm hw hB hz1 hk1 hS => ?_)
  obtain ⟨v1, v2⟩ := u
  obtain ⟨hP1, hK1, hD1⟩ := hB
  rw [ht] at hP1
  have hK1 := va_K.moved hvm.symm hK1
  obtain ⟨hP, hD⟩ := va_join (wr := [(rf 19, .inl (c_elements, 26, .inl g_elements)), (rf 25, .inl (c_rankOf, 106496, .inl g_rankOf)), (rf 27, .inl (c_order, 4096, .inl g_order)), (rf 28, .inl (c_sizes, 4096, .inl g_sizes))]) (w1 := [(h0, .inr (8, px_mf rf v1)), (rf 18, .inl (c_there, 26, .inl v2))]) hP hD [0, 1] [2, 3, 4, 5] rfl rfl (by decide) (by decide) hk1 hFc hP1 hD1
  generalize H1 = H at hP hS ⊢
  have hP : va_P (dC, dI) vwCl [(rf 19, .inl (c_elements, 26, .inl g_elements)), (rf 25, .inl (c_rankOf, 106496, .inl g_rankOf)), (rf 27, .inl (c_order, 4096, .inl g_order)), (rf 28, .inl (c_sizes, 4096, .inl g_sizes)), (h0, .inr (8, px_mf rf v1)), (rf 18, .inl (c_there, 26, .inl v2))] H := hP
  have hD : va_D A [(rf 19, .inl (c_elements, 26, .inl g_elements)), (rf 25, .inl (c_rankOf, 106496, .inl g_rankOf)), (rf 27, .inl (c_order, 4096, .inl g_order)), (rf 28, .inl (c_sizes, 4096, .inl g_sizes)), (h0, .inr (8, px_mf rf v1)), (rf 18, .inl (c_there, 26, .inl v2))] := hD
  have hP := hP.sub (ws' := [(h0, .inr (8, px_mf rf v1)), (rf 18, .inl (c_there, 26, .inl v2)), (rf 19, .inl (c_elements, 26, .inl g_elements)), (rf 25, .inl (c_rankOf, 106496, .inl g_rankOf)), (rf 27, .inl (c_order, 4096, .inl g_order)), (rf 28, .inl (c_sizes, 4096, .inl g_sizes))]) [4, 5, 0, 1, 2, 3] rfl
  have hD := hD.sub (ws' := [(h0, .inr (8, px_mf rf v1)), (rf 18, .inl (c_there, 26, .inl v2)), (rf 19, .inl (c_elements, 26, .inl g_elements)), (rf 25, .inl (c_rankOf, 106496, .inl g_rankOf)), (rf 27, .inl (c_order, 4096, .inl g_order)), (rf 28, .inl (c_sizes, 4096, .inl g_sizes))]) [4, 5, 0, 1, 2, 3] (by decide) rfl
  refine lv_if_eq (tgt := 40) hx hb px_d128_5 (by decide) (fun c5 => ?_) (fun c5 => ?_)
  · have hw := hw.1 c5
    exact S40 a1x a2x v1 v2 g_elements g_rankOf g_order g_sizes H locs ls hP hD hS (lv_sub hl [0, 1, 2] rfl) hw
  · have hw := hw.2 c5
    refine lv_aload_n hx hb px_d128_8 rfl (lv_at hl 0 rfl) ?_
    refine lv_iload_n hx hb px_d128_9 rfl (lv_at hl 2 rfl) ?_
    have hPc := hP.sub (ws' := [(h0, .inr (8, px_mf rf v1)), (rf 18, .inl (c_there, 26, .inl v2))]) [0, 1] rfl
    have hDc := hD.sub (ws' := [(h0, .inr (8, px_mf rf v1)), (rf 18, .inl (c_there, 26, .inl v2))]) [0, 1] (by decide) rfl
    have hKc := hK.sub (tys' := [(c_there, .boolean)]) [0] rfl
    have hFc := va_free (wc := [(h0, .inr (8, px_mf rf v1)), (rf 18, .inl (c_there, 26, .inl v2))]) hD hS hA [0, 1] rfl
    refine va_calli (va_runV (As := [.int a2x]) (rest := []) ⟨hx, hb, hml, hown, htw⟩ (w118_met l dC dI H.size h0 rf c_there a2x v1 v2 _ hw) (cwV 1 htw (px_gv px_w764 px_w759 px_w760 px_w94 px_g118) rfl rfl rfl (by decide +kernel) ⟨Nat.le_of_ble_eq_true rfl, Nat.le_of_ble_eq_true rfl⟩) ⟨fun a U g mk q => by obtain ⟨q0, q1, qP, qK, qD, qN⟩ := q; exact ⟨q0, q1, qP, va_K.moved (u := U) (U := U.calling g mk a) (Vm.Alike.refl U.vm) qK, qD, qN.same rfl⟩, va_recv hK hP (ci := 8) (q0 := 0) rfl rfl, fun U hU hW => ⟨rfl, by rw [hU], by rw [hU]; exact hPc, va_K.moved hW.alike hKc, hDc.weaken (fun _ _ _ _ => trivial), hN.warm hW⟩⟩ rfl rfl hl.1 rfl (lv_room (Nat.le_of_ble_eq_true rfl)) px_d128_10 ⟨(Nat.le_of_ble_eq_true rfl), (Nat.le_of_ble_eq_true rfl)⟩) hS (fun q _ h => hFc q h) hFc (fun r10 u t H1 locs ht hvm hw hB hz1 hk1 hS => ?_)
    obtain ⟨v3, v4⟩ := u
    obtain ⟨hP1, hK1, hD1⟩ := hB
    rw [ht] at hP1
    have hK1 := va_K.moved hvm.symm hK1
    obtain ⟨hP, hD⟩ := va_join (wr := [(rf 19, .inl (c_elements, 26, .inl g_elements)), (rf 25, .inl (c_rankOf, 106496, .inl g_rankOf)), (rf 27, .inl (c_order, 4096, .inl g_order)), (rf 28, .inl (c_sizes, 4096, .inl g_sizes))]) (w1 := [(h0, .inr (8, px_mf rf v3)), (rf 18, .inl (c_there, 26, .inl v4))]) hP hD [0, 1] [2, 3, 4, 5] rfl rfl (by decide) (by decide) hk1 hFc hP1 hD1
    generalize H1 = H at hP hS ⊢
    have hP : va_P (dC, dI) vwCl [(rf 19, .inl (c_elements, 26, .inl g_elements)), (rf 25, .inl (c_rankOf, 106496, .inl g_rankOf)), (rf 27, .inl (c_order, 4096, .inl g_order)), (rf 28, .inl (c_sizes, 4096, .inl g_sizes)), (h0, .inr (8, px_mf rf v3)), (rf 18, .inl (c_there, 26, .inl v4))] H := hP
    have hD : va_D A [(rf 19, .inl (c_elements, 26, .inl g_elements)), (rf 25, .inl (c_rankOf, 106496, .inl g_rankOf)), (rf 27, .inl (c_order, 4096, .inl g_order)), (rf 28, .inl (c_sizes, 4096, .inl g_sizes)), (h0, .inr (8, px_mf rf v3)), (rf 18, .inl (c_there, 26, .inl v4))] := hD
    have hP := hP.sub (ws' := [(h0, .inr (8, px_mf rf v3)), (rf 18, .inl (c_there, 26, .inl v4)), (rf 19, .inl (c_elements, 26, .inl g_elements)), (rf 25, .inl (c_rankOf, 106496, .inl g_rankOf)), (rf 27, .inl (c_order, 4096, .inl g_order)), (rf 28, .inl (c_sizes, 4096, .inl g_sizes))]) [4, 5, 0, 1, 2, 3] rfl
    have hD := hD.sub (ws' := [(h0, .inr (8, px_mf rf v3)), (rf 18, .inl (c_there, 26, .inl v4)), (rf 19, .inl (c_elements, 26, .inl g_elements)), (rf 25, .inl (c_rankOf, 106496, .inl g_rankOf)), (rf 27, .inl (c_order, 4096, .inl g_order)), (rf 28, .inl (c_sizes, 4096, .inl g_sizes))]) [4, 5, 0, 1, 2, 3] (by decide) rfl
    refine lv_if_eq (tgt := 40) hx hb px_d128_13 (by decide) (fun c13 => ?_) (fun c13 => ?_)
    · have hw := hw.1 c13
      exact S40 a1x a2x v3 v4 g_elements g_rankOf g_order g_sizes H locs ls hP hD hS (lv_sub hl [0, 1, 2] rfl) hw
    · have hw := hw.2 c13
      refine lv_aload_n hx hb px_d128_16 rfl (lv_at hl 0 rfl) ?_
      refine va_get (D := (dC, dI)) (ci := 8) (v := .ref (rf 19)) (C := "MatroidDeskModel") (T := px_T8) (N := 53) hx hb htw px_in8 hown hK hP 0 rfl rfl 19 (by decide) (htw _ px_w502) (fun _ h9 => h9) rfl px_d128_17 ?_
      refine lv_iload_n hx hb px_d128_20 rfl (lv_at hl 1 rfl) ?_
      obtain ⟨hi21, hw⟩ := hw
      refine va_iald hx hb hK hP 2 1 rfl rfl hi21 px_d128_21 ?_
      refine lv_aload_n hx hb px_d128_22 rfl (lv_at hl 0 rfl) ?_
      refine va_get (D := (dC, dI)) (ci := 8) (v := .ref (rf 19)) (C := "MatroidDeskModel") (T := px_T8) (N := 53) hx hb htw px_in8 hown hK hP 0 rfl rfl 19 (by decide) (htw _ px_w502) (fun _ h9 => h9) rfl px_d128_23 ?_
      refine lv_iload_n hx hb px_d128_26 rfl (lv_at hl 2 rfl) ?_
      obtain ⟨hi27, hw⟩ := hw
      refine va_iald hx hb hK hP 2 1 rfl rfl hi27 px_d128_27 ?_
      refine lv_icmp_ne (tgt := 40) hx hb px_d128_28 (by decide) (fun c28 => ?_) (fun c28 => ?_)
      · have hw := hw.1 c28
        exact S40 a1x a2x v3 v4 g_elements g_rankOf g_order g_sizes H locs ls hP hD hS (lv_sub hl [0, 1, 2] rfl) hw
      · have hw := hw.2 c28
        refine lv_aload_n hx hb px_d128_31 rfl (lv_at hl 0 rfl) ?_
        refine lv_iload_n hx hb px_d128_32 rfl (lv_at hl 1 rfl) ?_
        refine lv_iload_n hx hb px_d128_33 rfl (lv_at hl 2 rfl) ?_
        have hPc := hP.sub (ws' := [(h0, .inr (8, px_mf rf v3)), (rf 19, .inl (c_elements, 26, .inl g_elements)), (rf 25, .inl (c_rankOf, 106496, .inl g_rankOf)), (rf 27, .inl (c_order, 4096, .inl g_order)), (rf 28, .inl (c_sizes, 4096, .inl g_sizes))]) [0, 2, 3, 4, 5] rfl
        have hDc := hD.sub (ws' := [(h0, .inr (8, px_mf rf v3)), (rf 19, .inl (c_elements, 26, .inl g_elements)), (rf 25, .inl (c_rankOf, 106496, .inl g_rankOf)), (rf 27, .inl (c_order, 4096, .inl g_order)), (rf 28, .inl (c_sizes, 4096, .inl g_sizes))]) [0, 2, 3, 4, 5] (by decide) rfl
        have hKc := hK.sub (tys' := [(c_elements, .int), (c_rankOf, .byte), (c_order, .int), (c_sizes, .int)]) [1, 2, 3, 4] rfl
        have hFc := va_free (wc := [(h0, .inr (8, px_mf rf v3)), (rf 19, .inl (c_elements, 26, .inl g_elements)), (rf 25, .inl (c_rankOf, 106496, .inl g_rankOf)), (rf 27, .inl (c_order, 4096, .inl g_order)), (rf 28, .inl (c_sizes, 4096, .inl g_sizes))]) hD hS hA [0, 2, 3, 4, 5] rfl
        refine va_calli (va_runV (As := [.int a1x, .int a2x]) (rest := []) ⟨hx, hb, hml, hown, htw⟩ (w82_met l dC dI H.size h0 rf c_elements c_rankOf c_order c_sizes a1x a2x v3 g_elements g_rankOf g_order g_sizes _ hw) (cwV 2 htw (px_gv px_w748 px_w596 px_w597 px_w94 px_g82) rfl rfl rfl (by decide +kernel) ⟨Nat.le_of_ble_eq_true rfl, Nat.le_of_ble_eq_true rfl⟩) ⟨fun a U g mk q => by obtain ⟨q0, q1, qP, qK, qD, qN⟩ := q; exact ⟨q0, q1, qP, va_K.moved (u := U) (U := U.calling g mk a) (Vm.Alike.refl U.vm) qK, qD, qN.same rfl⟩, va_recv hK hP (ci := 8) (q0 := 0) rfl rfl, fun U hU hW => ⟨rfl, by rw [hU], by rw [hU]; exact hPc, va_K.moved hW.alike hKc, hDc.weaken (fun _ _ _ _ => trivial), hN.warm hW⟩⟩ rfl rfl hl.1 rfl (lv_room (Nat.le_of_ble_eq_true rfl)) px_d128_34 ⟨(Nat.le_of_ble_eq_true rfl), (Nat.le_of_ble_eq_true rfl)⟩) hS (fun q _ h => hFc q h) hFc (fun r34 u t H1 locs ht hvm hw hB hz1 hk1 hS => ?_)
        obtain ⟨v5, v6, v7, v8, v9⟩ := u
        obtain ⟨hP1, hK1, hD1⟩ := hB
        rw [ht] at hP1
        have hK1 := va_K.moved hvm.symm hK1
        obtain ⟨hP, hD⟩ := va_join (wr := [(rf 18, .inl (c_there, 26, .inl v4))]) (w1 := [(h0, .inr (8, px_mf rf v5)), (rf 19, .inl (c_elements, 26, .inl v6)), (rf 25, .inl (c_rankOf, 106496, .inl v7)), (rf 27, .inl (c_order, 4096, .inl v8)), (rf 28, .inl (c_sizes, 4096, .inl v9))]) hP hD [0, 2, 3, 4, 5] [1] rfl rfl (by decide) (by decide) hk1 hFc hP1 hD1
        generalize H1 = H at hP hS ⊢
        have hP : va_P (dC, dI) vwCl [(rf 18, .inl (c_there, 26, .inl v4)), (h0, .inr (8, px_mf rf v5)), (rf 19, .inl (c_elements, 26, .inl v6)), (rf 25, .inl (c_rankOf, 106496, .inl v7)), (rf 27, .inl (c_order, 4096, .inl v8)), (rf 28, .inl (c_sizes, 4096, .inl v9))] H := hP
        have hD : va_D A [(rf 18, .inl (c_there, 26, .inl v4)), (h0, .inr (8, px_mf rf v5)), (rf 19, .inl (c_elements, 26, .inl v6)), (rf 25, .inl (c_rankOf, 106496, .inl v7)), (rf 27, .inl (c_order, 4096, .inl v8)), (rf 28, .inl (c_sizes, 4096, .inl v9))] := hD
        have hP := hP.sub (ws' := [(h0, .inr (8, px_mf rf v5)), (rf 18, .inl (c_there, 26, .inl v4)), (rf 19, .inl (c_elements, 26, .inl v6)), (rf 25, .inl (c_rankOf, 106496, .inl v7)), (rf 27, .inl (c_order, 4096, .inl v8)), (rf 28, .inl (c_sizes, 4096, .inl v9))]) [1, 0, 2, 3, 4, 5] rfl
        have hD := hD.sub (ws' := [(h0, .inr (8, px_mf rf v5)), (rf 18, .inl (c_there, 26, .inl v4)), (rf 19, .inl (c_elements, 26, .inl v6)), (rf 25, .inl (c_rankOf, 106496, .inl v7)), (rf 27, .inl (c_order, 4096, .inl v8)), (rf 28, .inl (c_sizes, 4096, .inl v9))]) [1, 0, 2, 3, 4, 5] (by decide) rfl
        refine lv_goto (tgt := 41) hx hb px_d128_37 (by decide) ?_
        exact S41 a1x a2x r34 v5 v4 v6 v7 v8 v9 H locs ls hP hD hS (lv_sub hl [0, 1, 2] rfl) hw

