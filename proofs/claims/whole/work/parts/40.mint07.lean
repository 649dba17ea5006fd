/-! MatroidDeskModel.sign(II)I -/
def w129_L71 (post : Int32 → (Nat → Int32) → (Nat → Int32) → (Nat → Int32) → (Nat → Int32) → (Nat → Int32) → (Nat → Int32) → (Nat → Int32) → Prop) (x1 : Int32) (x2 : Int32) (x3 : Int32) (y0 : Int32) (iv : Nat → Int32) (g_there : Nat → Int32) (g_elements : Nat → Int32) (g_fields : Nat → Int32) (g_ranks : Nat → Int32) (g_signOf : Nat → Int32) (g_sizes : Nat → Int32) : Prop := post y0 iv g_there g_elements g_fields g_ranks g_signOf g_sizes
def w129_L50 (post : Int32 → (Nat → Int32) → (Nat → Int32) → (Nat → Int32) → (Nat → Int32) → (Nat → Int32) → (Nat → Int32) → (Nat → Int32) → Prop) (x1 : Int32) (x2 : Int32) (y0 : Int32) (iv : Nat → Int32) (g_there : Nat → Int32) (g_elements : Nat → Int32) (g_fields : Nat → Int32) (g_ranks : Nat → Int32) (g_signOf : Nat → Int32) (g_sizes : Nat → Int32) : Prop := (y0 = 0 → w129_L71 post x1 x2 y0 2 iv g_there g_elements g_fields g_ranks g_signOf g_sizes) ∧ (¬ y0 = 0 → vp_in ((4096 * x1) + x2) 106496 ∧ (w129_L71 post x1 x2 y0 (g_signOf (Int32.toNatClampNeg ((4096 * x1) + x2))) iv g_there g_elements g_fields g_ranks g_signOf g_sizes))
def w129_L49 (post : Int32 → (Nat → Int32) → (Nat → Int32) → (Nat → Int32) → (Nat → Int32) → (Nat → Int32) → (Nat → Int32) → (Nat → Int32) → Prop) (x1 : Int32) (x2 : Int32) (iv : Nat → Int32) (g_there : Nat → Int32) (g_elements : Nat → Int32) (g_fields : Nat → Int32) (g_ranks : Nat → Int32) (g_signOf : Nat → Int32) (g_sizes : Nat → Int32) : Prop := w129_L50 post x1 x2 0 iv g_there g_elements g_fields g_ranks g_signOf g_sizes
def w129_wp (post : Int32 → (Nat → Int32) → (Nat → Int32) → (Nat → Int32) → (Nat → Int32) → (Nat → Int32) → (Nat → Int32) → (Nat → Int32) → Prop) (a1x : Int32) (a2x : Int32) (iv : Nat → Int32) (g_there : Nat → Int32) (g_elements : Nat → Int32) (g_fields : Nat → Int32) (g_ranks : Nat → Int32) (g_signOf : Nat → Int32) (g_sizes : Nat → Int32) : Prop := w118_wp (fun r2 v1 v2 => (r2 = 0 → w129_L49 post a1x a2x v1 v2 g_elements g_fields g_ranks g_signOf g_sizes) ∧ (¬ r2 = 0 → vp_in a1x 26 ∧ ((¬ (g_fields (Int32.toNatClampNeg a1x)) = 0 → w129_L49 post a1x a2x v1 v2 g_elements g_fields g_ranks g_signOf g_sizes) ∧ ((g_fields (Int32.toNatClampNeg a1x)) = 0 → (a2x < 0 → w129_L49 post a1x a2x v1 v2 g_elements g_fields g_ranks g_signOf g_sizes) ∧ (¬ a2x < 0 → w71_wp (fun r24 v3 v4 => (r24 < a2x → w129_L49 post a1x a2x v3 v2 v4 g_fields g_ranks g_signOf g_sizes) ∧ (¬ r24 < a2x → vp_in a2x 4096 ∧ (vp_in a1x 26 ∧ ((¬ (g_sizes (Int32.toNatClampNeg a2x)) = (g_ranks (Int32.toNatClampNeg a1x)) → w129_L49 post a1x a2x v3 v2 v4 g_fields g_ranks g_signOf g_sizes) ∧ ((g_sizes (Int32.toNatClampNeg a2x)) = (g_ranks (Int32.toNatClampNeg a1x)) → w129_L50 post a1x a2x 1 v3 v2 v4 g_fields g_ranks g_signOf g_sizes))))) a1x v1 g_elements))))) a1x iv g_there
set_option maxHeartbeats 8000000 in
set_option maxRecDepth 100000 in
theorem w129_met (l : Launch) (dC : Nat → ClassId) (dI : Nat → Nat → Nat) (sz : Nat) (h0 : Nat) (rf : Nat → Nat) (c_there : ClassId) (c_elements : ClassId) (c_fields : ClassId) (c_ranks : ClassId) (c_signOf : ClassId) (c_sizes : ClassId) (a1x : Int32) (a2x : Int32) (iv : Nat → Int32) (g_there : Nat → Int32) (g_elements : Nat → Int32) (g_fields : Nat → Int32) (g_ranks : Nat → Int32) (g_signOf : Nat → Int32) (g_sizes : Nat → Int32) (post : Int32 → (Nat → Int32) → (Nat → Int32) → (Nat → Int32) → (Nat → Int32) → (Nat → Int32) → (Nat → Int32) → (Nat → Int32) → Prop) (hw : w129_wp post a1x a2x iv g_there g_elements g_fields g_ranks g_signOf g_sizes) : Met l px_y129 px_s129 ({ frames := 1, cells := 0, slots := 0, locals := 21 }) (va_Pc [.ref h0, .int a1x, .int a2x] (fun U => U.heap.size = sz ∧ va_P (dC, dI) vwCl [(h0, .inr (8, px_mf rf iv)), (rf 18, .inl (c_there, 26, .inl g_there)), (rf 19, .inl (c_elements, 26, .inl g_elements)), (rf 20, .inl (c_fields, 26, .inl g_fields)), (rf 21, .inl (c_ranks, 26, .inl g_ranks)), (rf 26, .inl (c_signOf, 106496, .inl g_signOf)), (rf 28, .inl (c_sizes, 4096, .inl g_sizes))] U.heap ∧ va_K (dC, dI) vwCl [(c_there, .boolean), (c_elements, .int), (c_fields, .int), (c_ranks, .int), (c_signOf, .byte), (c_sizes, .int)] U ∧ va_D (fun _ => True) [(h0, .inr (8, px_mf rf iv)), (rf 18, .inl (c_there, 26, .inl g_there)), (rf 19, .inl (c_elements, 26, .inl g_elements)), (rf 20, .inl (c_fields, 26, .inl g_fields)), (rf 21, .inl (c_ranks, 26, .inl g_ranks)), (rf 26, .inl (c_signOf, 106496, .inl g_signOf)), (rf 28, .inl (c_sizes, 4096, .inl g_sizes))] ∧ px_N U)) (va_Qi (fun (r : Int32) (u : (Nat → Int32) × (Nat → Int32) × (Nat → Int32) × (Nat → Int32) × (Nat → Int32) × (Nat → Int32) × (Nat → Int32)) => post r u.1 u.2.1 u.2.2.1 u.2.2.2.1 u.2.2.2.2.1 u.2.2.2.2.2.1 u.2.2.2.2.2.2) (fun (u : (Nat → Int32) × (Nat → Int32) × (Nat → Int32) × (Nat → Int32) × (Nat → Int32) × (Nat → Int32) × (Nat → Int32)) (t : State) => va_P (dC, dI) vwCl [(h0, .inr (8, px_mf rf u.1)), (rf 18, .inl (c_there, 26, .inl u.2.1)), (rf 19, .inl (c_elements, 26, .inl u.2.2.1)), (rf 20, .inl (c_fields, 26, .inl u.2.2.2.1)), (rf 21, .inl (c_ranks, 26, .inl u.2.2.2.2.1)), (rf 26, .inl (c_signOf, 106496, .inl u.2.2.2.2.2.1)), (rf 28, .inl (c_sizes, 4096, .inl u.2.2.2.2.2.2))] t.heap ∧ va_K (dC, dI) vwCl [(c_there, .boolean), (c_elements, .int), (c_fields, .int), (c_ranks, .int), (c_signOf, .byte), (c_sizes, .int)] t ∧ va_D (va_A [(h0, .inr (8, px_mf rf iv)), (rf 18, .inl (c_there, 26, .inl g_there)), (rf 19, .inl (c_elements, 26, .inl g_elements)), (rf 20, .inl (c_fields, 26, .inl g_fields)), (rf 21, .inl (c_ranks, 26, .inl g_ranks)), (rf 26, .inl (c_signOf, 106496, .inl g_signOf)), (rf 28, .inl (c_sizes, 4096, .inl g_sizes))] sz) [(h0, .inr (8, px_mf rf u.1)), (rf 18, .inl (c_there, 26, .inl u.2.1)), (rf 19, .inl (c_elements, 26, .inl u.2.2.1)), (rf 20, .inl (c_fields, 26, .inl u.2.2.2.1)), (rf 21, .inl (c_ranks, 26, .inl u.2.2.2.2.1)), (rf 26, .inl (c_signOf, 106496, .inl u.2.2.2.2.2.1)), (rf 28, .inl (c_sizes, 4096, .inl u.2.2.2.2.2.2))]) (va_A [(h0, .inr (8, px_mf rf iv)), (rf 18, .inl (c_there, 26, .inl g_there)), (rf 19, .inl (c_elements, 26, .inl g_elements)), (rf 20, .inl (c_fields, 26, .inl g_fields)), (rf 21, .inl (c_ranks, 26, .inl g_ranks)), (rf 26, .inl (c_signOf, 106496, .inl g_signOf)), (rf 28, .inl (c_sizes, 4096, .inl g_sizes))] sz)) 0 0 (va_A [(h0, .inr (8, px_mf rf iv)), (rf 18, .inl (c_there, 26, .inl g_there)), (rf 19, .inl (c_elements, 26, .inl g_elements)), (rf 20, .inl (c_fields, 26, .inl g_fields)), (rf 21, .inl (c_ranks, 26, .inl g_ranks)), (rf 26, .inl (c_signOf, 106496, .inl g_signOf)), (rf 28, .inl (c_sizes, 4096, .inl g_sizes))] sz) := by
  refine Met.ofW (cc := prog_15_method_108_code) (maxL := 4) (ret := (some .int)) (by decide) rfl ?_
  intro p e s m args below meth c s₁ B hml hv
  obtain ⟨rfl, hsz, hP, hK, hD0, hN⟩ := hv
  have hx := B.exec
  have hb := B.bytes
  have hr := B.returns
  have htw : ∀ w ∈ px_all, w.before _ s = true := fun w h => atoms_spec (ws := px_s129) B.pre w (List.mem_cons_of_mem _ h)
  have hown : s.vm.findClass "MatroidDeskModel" = some m.cls := findClass_of_methodNamed B.named
  have hlocks := B.notSynchronized
  subst hsz
  have hD := hD0.self (sz := s.heap.size)
  generalize hAe : va_A [(h0, .inr (8, px_mf rf iv)), (rf 18, .inl (c_there, 26, .inl g_there)), (rf 19, .inl (c_elements, 26, .inl g_elements)), (rf 20, .inl (c_fields, 26, .inl g_fields)), (rf 21, .inl (c_ranks, 26, .inl g_ranks)), (rf 26, .inl (c_signOf, 106496, .inl g_signOf)), (rf 28, .inl (c_sizes, 4096, .inl g_sizes))] s.heap.size = A at hD ⊢
  have hA : ∀ q : Nat, s.heap.size ≤ q → A q := fun q h => by rw [← hAe]; exact Or.inr h
  have hS : va_S A s.heap s.heap [] := va_S.rf
  have hP : va_P (dC, dI) vwCl [(h0, .inr (8, px_mf rf iv)), (rf 18, .inl (c_there, 26, .inl g_there)), (rf 19, .inl (c_elements, 26, .inl g_elements)), (rf 20, .inl (c_fields, 26, .inl g_fields)), (rf 21, .inl (c_ranks, 26, .inl g_ranks)), (rf 26, .inl (c_signOf, 106496, .inl g_signOf)), (rf 28, .inl (c_sizes, 4096, .inl g_sizes))] s.heap := hP
  have hl := lv_entry ([.ref h0, .int a1x, .int a2x]) (n := 4) (Nat.le_of_ble_eq_true rfl)
  rw [lg_entry_eq]
  generalize (lg_sl ([.ref h0, .int a1x, .int a2x]) ++ List.replicate (4 - (lg_sl ([.ref h0, .int a1x, .int a2x])).length) Slot.unset).toArray = ls at hl ⊢
  have hl : lv_has ls 4 [(0, .ref h0), (1, .int a1x), (2, .int a2x)] := hl
  generalize hQ : MQ _ _ _ _ _ _ _ = Q
  have S71 : ∀ (x1 : Int32) (x2 : Int32) (x3 : Int32) (y0 : Int32) (iv : Nat → Int32) (g_there : Nat → Int32) (g_elements : Nat → Int32) (g_fields : Nat → Int32) (g_ranks : Nat → Int32) (g_signOf : Nat → Int32) (g_sizes : Nat → Int32) (H : Heap) (locs : List Loc) (ls : Array Slot), va_P (dC, dI) vwCl [(h0, .inr (8, px_mf rf iv)), (rf 18, .inl (c_there, 26, .inl g_there)), (rf 19, .inl (c_elements, 26, .inl g_elements)), (rf 20, .inl (c_fields, 26, .inl g_fields)), (rf 21, .inl (c_ranks, 26, .inl g_ranks)), (rf 26, .inl (c_signOf, 106496, .inl g_signOf)), (rf 28, .inl (c_sizes, 4096, .inl g_sizes))] H → va_D A [(h0, .inr (8, px_mf rf iv)), (rf 18, .inl (c_there, 26, .inl g_there)), (rf 19, .inl (c_elements, 26, .inl g_elements)), (rf 20, .inl (c_fields, 26, .inl g_fields)), (rf 21, .inl (c_ranks, 26, .inl g_ranks)), (rf 26, .inl (c_signOf, 106496, .inl g_signOf)), (rf 28, .inl (c_sizes, 4096, .inl g_sizes))] → va_S A s.heap H locs → lv_has ls 4 [(0, .ref h0), (1, .int x1), (2, .int x2), (3, .int x3)] → w129_L71 post x1 x2 x3 y0 iv g_there g_elements g_fields g_ranks g_signOf g_sizes → W p l e (headSpec px_s129 ({ frames := 1, cells := 0, slots := 0, locals := 21 })).room s m ([.ref h0, .int a1x, .int a2x]).toArray below meth c H locs 0 0 Q (F0 m 71 ls [.int y0]) := by
    intro x1 x2 x3 y0 iv g_there g_elements g_fields g_ranks g_signOf g_sizes H locs ls hP hD hS hl hw
    unfold w129_L71 at hw
    rw [← hQ]
    exact W.iret (v := y0) hx hb hr (fun t ht hW => ⟨⟨y0, (iv, g_there, g_elements, g_fields, g_ranks, g_signOf, g_sizes), rfl, hw, by rw [ht]; exact hP, va_K.moved hW.alike hK, hD⟩, hS.F ht⟩) hS.2.2 px_d129_71
  have S50 : ∀ (x1 : Int32) (x2 : Int32) (y0 : Int32) (iv : Nat → Int32) (g_there : Nat → Int32) (g_elements : Nat → Int32) (g_fields : Nat → Int32) (g_ranks : Nat → Int32) (g_signOf : Nat → Int32) (g_sizes : Nat → Int32) (H : Heap) (locs : List Loc) (ls : Array Slot), va_P (dC, dI) vwCl [(h0, .inr (8, px_mf rf iv)), (rf 18, .inl (c_there, 26, .inl g_there)), (rf 19, .inl (c_elements, 26, .inl g_elements)), (rf 20, .inl (c_fields, 26, .inl g_fields)), (rf 21, .inl (c_ranks, 26, .inl g_ranks)), (rf 26, .inl (c_signOf, 106496, .inl g_signOf)), (rf 28, .inl (c_sizes, 4096, .inl g_sizes))] H → va_D A [(h0, .inr (8, px_mf rf iv)), (rf 18, .inl (c_there, 26, .inl g_there)), (rf 19, .inl (c_elements, 26, .inl g_elements)), (rf 20, .inl (c_fields, 26, .inl g_fields)), (rf 21, .inl (c_ranks, 26, .inl g_ranks)), (rf 26, .inl (c_signOf, 106496, .inl g_signOf)), (rf 28, .inl (c_sizes, 4096, .inl g_sizes))] → va_S A s.heap H locs → lv_has ls 4 [(0, .ref h0), (1, .int x1), (2, .int x2)] → w129_L50 post x1 x2 y0 iv g_there g_elements g_fields g_ranks g_signOf g_sizes → W p l e (headSpec px_s129 ({ frames := 1, cells := 0, slots := 0, locals := 21 })).room s m ([.ref h0, .int a1x, .int a2x]).toArray below meth c H locs 0 0 Q (F0 m 50 ls [.int y0]) := by
    intro x1 x2 y0 iv g_there g_elements g_fields g_ranks g_signOf g_sizes H locs ls hP hD hS hl hw
    unfold w129_L50 at hw
    refine lv_istore_n (lv' := [(3, .int y0), (0, .ref h0), (1, .int x1), (2, .int x2)]) hx hb px_d129_50 rfl hl (by decide) rfl (fun ls hl => ?_)
    refine lv_iload_n hx hb px_d129_51 rfl (lv_at hl 0 rfl) ?_
    refine lv_if_eq (tgt := 70) hx hb px_d129_52 (by decide) (fun c52 => ?_) (fun c52 => ?_)
    · have hw := hw.1 c52
      refine lv_iconst (v := 2) hx hb px_d129_70 (by decide) ?_
      exact S71 x1 x2 y0 2 iv g_there g_elements g_fields g_ranks g_signOf g_sizes H locs ls hP hD hS (lv_sub hl [1, 2, 3, 0] rfl) hw
    · have hw := hw.2 c52
      refine lv_aload_n hx hb px_d129_55 rfl (lv_at hl 1 rfl) ?_
      refine va_get (D := (dC, dI)) (ci := 8) (v := .ref (rf 26)) (C := "MatroidDeskModel") (T := px_T8) (N := 53) hx hb htw px_in8 hown hK hP 0 rfl rfl 26 (by decide) (htw _ px_w511) (fun _ h9 => h9) rfl px_d129_56 ?_
      refine lv_sipush (v := 4096) hx hb px_d129_59 (by decide) ?_
      refine lv_iload_n hx hb px_d129_62 rfl (lv_at hl 2 rfl) ?_
      refine lv_imul hx hb px_d129_63 ?_
      refine lv_iload_n hx hb px_d129_64 rfl (lv_at hl 3 rfl) ?_
      refine lv_iadd hx hb px_d129_65 ?_
      obtain ⟨hi66, hw⟩ := hw
      refine va_bald hx hb hK hP 5 4 rfl rfl hi66 px_d129_66 ?_
      refine lv_goto (tgt := 71) hx hb px_d129_67 (by decide) ?_
      exact S71 x1 x2 y0 (g_signOf (Int32.toNatClampNeg ((4096 * x1) + x2))) iv g_there g_elements g_fields g_ranks g_signOf g_sizes H locs ls hP hD hS (lv_sub hl [1, 2, 3, 0] rfl) hw
  have S49 : ∀ (x1 : Int32) (x2 : Int32) (iv : Nat → Int32) (g_there : Nat → Int32) (g_elements : Nat → Int32) (g_fields : Nat → Int32) (g_ranks : Nat → Int32) (g_signOf : Nat → Int32) (g_sizes : Nat → Int32) (H : Heap) (locs : List Loc) (ls : Array Slot), va_P (dC, dI) vwCl [(h0, .inr (8, px_mf rf iv)), (rf 18, .inl (c_there, 26, .inl g_there)), (rf 19, .inl (c_elements, 26, .inl g_elements)), (rf 20, .inl (c_fields, 26, .inl g_fields)), (rf 21, .inl (c_ranks, 26, .inl g_ranks)), (rf 26, .inl (c_signOf, 106496, .inl g_signOf)), (rf 28, .inl (c_sizes, 4096, .inl g_sizes))] H → va_D A [(h0, .inr (8, px_mf rf iv)), (rf 18, .inl (c_there, 26, .inl g_there)), (rf 19, .inl (c_elements, 26, .inl g_elements)), (rf 20, .inl (c_fields, 26, .inl g_fields)), (rf 21, .inl (c_ranks, 26, .inl g_ranks)), (rf 26, .inl (c_signOf, 106496, .inl g_signOf)), (rf 28, .inl (c_sizes, 4096, .inl g_sizes))] → va_S A s.heap H locs → lv_has ls 4 [(0, .ref h0), (1, .int x1), (2, .int x2)] → w129_L49 post x1 x2 iv g_there g_elements g_fields g_ranks g_signOf g_sizes → W p l e (headSpec px_s129 ({ frames := 1, cells := 0, slots := 0, locals := 21 })).room s m ([.ref h0, .int a1x, .int a2x]).toArray below meth c H locs 0 0 Q (F0 m 49 ls []) := by
    intro x1 x2 iv g_there g_elements g_fields g_ranks g_signOf g_sizes H locs ls hP hD hS hl hw
    unfold w129_L49 at hw
    refine lv_iconst (v := 0) hx hb px_d129_49 (by decide) ?_
    exact S50 x1 x2 0 iv g_there g_elements g_fields g_ranks g_signOf g_sizes H locs ls hP hD hS (lv_sub hl [0, 1, 2] rfl) hw
  unfold w129_wp at hw
  have hS0 := hS
  obtain ⟨H, hH9⟩ : ∃ z, z = s.heap := ⟨_, rfl⟩
  have hP : va_P (dC, dI) vwCl [(h0, .inr (8, px_mf rf iv)), (rf 18, .inl (c_there, 26, .inl g_there)), (rf 19, .inl (c_elements, 26, .inl g_elements)), (rf 20, .inl (c_fields, 26, .inl g_fields)), (rf 21, .inl (c_ranks, 26, .inl g_ranks)), (rf 26, .inl (c_signOf, 106496, .inl g_signOf)), (rf 28, .inl (c_sizes, 4096, .inl g_sizes))] H := by rw [hH9]; exact hP
  obtain ⟨locs, hlo9⟩ : ∃ z : List Loc, z = [] := ⟨_, rfl⟩
  have hS : va_S A s.heap H locs := by rw [hH9, hlo9]; exact hS
  suffices hG : W p l e (headSpec px_s129 ({ frames := 1, cells := 0, slots := 0, locals := 21 })).room s m ([.ref h0, .int a1x, .int a2x]).toArray below meth c H locs 0 0 Q (F0 m 0 ls []) by rw [hH9, hlo9] at hG; exact hG
  refine lv_aload_n hx hb px_d129_0 rfl (lv_at hl 0 rfl) ?_
  refine lv_iload_n hx hb px_d129_1 rfl (lv_at hl 1 rfl) ?_
  have hPc := hP.sub (ws' := [(h0, .inr (8, px_mf rf iv)), (rf 18, .inl (c_there, 26, .inl g_there))]) [0, 1] rfl
  have hDc := hD.sub (ws' := [(h0, .inr (8, px_mf rf iv)), (rf 18, .inl (c_there, 26, .inl g_there))]) [0, 1] (by decide) rfl
  have hKc := hK.sub (tys' := [(c_there, .boolean)]) [0] rfl
  have hFc := va_free (wc := [(h0, .inr (8, px_mf rf iv)), (rf 18, .inl (c_there, 26, .inl g_there))]) hD hS hA [0, 1] rfl
  refine va_calli (va_runV (As := [.int a1x]) (rest := []) ⟨hx, hb, hml, hown, htw⟩ (w118_met l dC dI H.size h0 rf c_there a1x iv g_there _ hw) (cwV 1 htw (px_gv px_w764 px_w759 px_w760 px_w94 px_g118) rfl rfl rfl (by decide +kernel) ⟨Nat.le_of_ble_eq_true rfl, Nat.le_of_ble_eq_true rfl⟩) ⟨fun a U g mk q => by obtain ⟨q0, q1, qP, qK, qD, qN⟩ := q; exact ⟨q0, q1, qP, va_K.moved (u := U) (U := U.calling g mk a) (Vm.Alike.refl U.vm) qK, qD, qN.same rfl⟩, va_recv hK hP (ci := 8) (q0 := 0) rfl rfl, fun U hU hW => ⟨rfl, by rw [hU], by rw [hU]; exact hPc, va_K.moved hW.alike hKc, hDc.weaken (fun _ _ _ _ => trivial), hN.warm hW⟩⟩ rfl rfl hl.1 rfl (lv_room (Nat.le_of_ble_eq_true rfl)) px_d129_2 ⟨(Nat.le_of_ble_eq_true rfl), (Nat.le_of_ble_eq_true rfl)⟩) hS (fun q _ h => hFc q h) hFc (fun r2 u t H1 locs ht hvm hw hB hz1 hk1 hS => ?_)
  obtain ⟨v1, v2⟩ := u
  obtain ⟨hP1, hK1, hD1⟩ := hB
  rw [ht] at hP1
  have hK1 := va_K.moved hvm.symm hK1
  obtain ⟨hP, hD⟩ := va_join (wr := [(rf 19, .inl (c_elements, 26, .inl g_elements)), (rf 20, .inl (c_fields, 26, .inl g_fields)), (rf 21, .inl (c_ranks, 26, .inl g_ranks)), (rf 26, .inl (c_signOf, 106496, .inl g_signOf)), (rf 28, .inl (c_sizes, 4096, .inl g_sizes))]) (w1 := [(h0, .inr (8, px_mf rf v1)), (rf 18, .inl (c_there, 26, .inl v2))]) hP hD [0, 1] [2, 3, 4, 5, 6] rfl rfl (by decide) (by decide) hk1 hFc hP1 hD1
  generalize H1 = H at hP hS ⊢
  have hP : va_P (dC, dI) vwCl [(rf 19, .inl (c_elements, 26, .inl g_elements)), (rf 20, .inl (c_fields, 26, .inl g_fields)), (rf 21, .inl (c_ranks, 26, .inl g_ranks)), (rf 26, .inl (c_signOf, 106496, .inl g_signOf)), (rf 28, .inl (c_sizes, 4096, .inl g_sizes)), (h0, .inr (8, px_mf rf v1)), (rf 18, .inl (c_there, 26, .inl v2))] H := hP
  have hD : va_D A [(rf 19, .inl (c_elements, 26, .inl g_elements)), (rf 20, .inl (c_fields, 26, .inl g_fields)), (rf 21, .inl (c_ranks, 26, .inl g_ranks)), (rf 26, .inl (c_signOf, 106496, .inl g_signOf)), (rf 28, .inl (c_sizes, 4096, .inl g_sizes)), (h0, .inr (8, px_mf rf v1)), (rf 18, .inl (c_there, 26, .inl v2))] := hD
  have hP := hP.sub (ws' := [(h0, .inr (8, px_mf rf v1)), (rf 18, .inl (c_there, 26, .inl v2)), (rf 19, .inl (c_elements, 26, .inl g_elements)), (rf 20, .inl (c_fields, 26, .inl g_fields)), (rf 21, .inl (c_ranks, 26, .inl g_ranks)), (rf 26, .inl (c_signOf, 106496, .inl g_signOf)), (rf 28, .inl (c_sizes, 4096, .inl g_sizes))]) [5, 6, 0, 1, 2, 3, 4] rfl
  have hD := hD.sub (ws' := [(h0, .inr (8, px_mf rf v1)), (rf 18, .inl (c_there, 26, .inl v2)), (rf 19, .inl (c_elements, 26, .inl g_elements)), (rf 20, .inl (c_fields, 26, .inl g_fields)), (rf 21, .inl (c_ranks, 26, .inl g_ranks)), (rf 26, .inl (c_signOf, 106496, .inl g_signOf)), (rf 28, .inl (c_sizes, 4096, .inl g_sizes))]) [5, 6, 0, 1, 2, 3, 4] (by decide) rfl
  refine lv_if_eq (tgt := 49) hx hb px_d129_5 (by decide) (fun c5 => ?_) (fun c5 => ?_)
  · have hw := hw.1 c5
    exact S49 a1x a2x v1 v2 g_elements g_fields g_ranks g_signOf g_sizes H locs ls hP hD hS (lv_sub hl [0, 1, 2] rfl) hw
  · have hw := hw.2 c5
    refine lv_aload_n hx hb px_d129_8 rfl (lv_at hl 0 rfl) ?_
    refine va_get (D := (dC, dI)) (ci := 8) (v := .ref (rf 20)) (C := "MatroidDeskModel") (T := px_T8) (N := 53) hx hb htw px_in8 hown hK hP 0 rfl rfl 20 (by decide) (htw _ px_w503) (fun _ h9 => h9) rfl px_d129_9 ?_
    refine lv_iload_n hx hb px_d129_12 rfl (lv_at hl 1 rfl) ?_
    obtain ⟨hi13, hw⟩ := hw
    refine va_iald hx hb hK hP 3 2 rfl rfl hi13 px_d129_13 ?_
    refine lv_if_ne (tgt := 49) hx hb px_d129_14 (by decide) (fun c14 => ?_) (fun c14 => ?_)
    · have hw := hw.1 c14
      exact S49 a1x a2x v1 v2 g_elements g_fields g_ranks g_signOf g_sizes H locs ls hP hD hS (lv_sub hl [0, 1, 2] rfl) hw
    · have hw := hw.2 c14
      refine lv_iload_n hx hb px_d129_17 rfl (lv_at hl 2 rfl) ?_
      refine lv_if_lt (tgt := 49) hx hb px_d129_18 (by decide) (fun c18 => ?_) (fun c18 => ?_)
      · have hw := hw.1 c18
        exact S49 a1x a2x v1 v2 g_elements g_fields g_ranks g_signOf g_sizes H locs ls hP hD hS (lv_sub hl [0, 1, 2] rfl) hw
      · have hw := hw.2 c18
        refine lv_iload_n hx hb px_d129_21 rfl (lv_at hl 2 rfl) ?_
        refine lv_aload_n hx hb px_d129_22 rfl (lv_at hl 0 rfl) ?_
        refine lv_iload_n hx hb px_d129_23 rfl (lv_at hl 1 rfl) ?_
        have hPc := hP.sub (ws' := [(h0, .inr (8, px_mf rf v1)), (rf 19, .inl (c_elements, 26, .inl g_elements))]) [0, 2] rfl
        have hDc := hD.sub (ws' := [(h0, .inr (8, px_mf rf v1)), (rf 19, .inl (c_elements, 26, .inl g_elements))]) [0, 2] (by decide) rfl
        have hKc := hK.sub (tys' := [(c_elements, .int)]) [1] rfl
        have hFc := va_free (wc := [(h0, .inr (8, px_mf rf v1)), (rf 19, .inl (c_elements, 26, .inl g_elements))]) hD hS hA [0, 2] rfl
        refine va_calli (va_runV (As := [.int a1x]) (rest := [.int a2x]) ⟨hx, hb, hml, hown, htw⟩ (w71_met l dC dI H.size h0 rf c_elements a1x v1 g_elements _ hw) (cwV 1 htw (px_gv px_w565 px_w556 px_w557 px_w94 px_g71) rfl rfl rfl (by decide +kernel) ⟨Nat.le_of_ble_eq_true rfl, Nat.le_of_ble_eq_true rfl⟩) ⟨fun a U g mk q => by obtain ⟨q0, q1, qP, qK, qD, qN⟩ := q; exact ⟨q0, q1, qP, va_K.moved (u := U) (U := U.calling g mk a) (Vm.Alike.refl U.vm) qK, qD, qN.same rfl⟩, va_recv hK hP (ci := 8) (q0 := 0) rfl rfl, fun U hU hW => ⟨rfl, by rw [hU], by rw [hU]; exact hPc, va_K.moved hW.alike hKc, hDc.weaken (fun _ _ _ _ => trivial), hN.warm hW⟩⟩ rfl rfl hl.1 rfl (lv_room (Nat.le_of_ble_eq_true rfl)) px_d129_24 ⟨(Nat.le_of_ble_eq_true rfl), (Nat.le_of_ble_eq_true rfl)⟩) hS (fun q _ h => hFc q h) hFc (fun r24 u t H1 locs ht hvm hw hB hz1 hk1 hS => ?_)
        obtain ⟨v3, v4⟩ := u
        obtain ⟨hP1, hK1, hD1⟩ := hB
        rw [ht] at hP1
        have hK1 := va_K.moved hvm.symm hK1
        obtain ⟨hP, hD⟩ := va_join (wr := [(rf 18, .inl (c_there, 26, .inl v2)), (rf 20, .inl (c_fields, 26, .inl g_fields)), (rf 21, .inl (c_ranks, 26, .inl g_ranks)), (rf 26, .inl (c_signOf, 106496, .inl g_signOf)), (rf 28, .inl (c_sizes, 4096, .inl g_sizes))]) (w1 := [(h0, .inr (8, px_mf rf v3)), (rf 19, .inl (c_elements, 26, .inl v4))]) hP hD [0, 2] [1, 3, 4, 5, 6] rfl rfl (by decide) (by decide) hk1 hFc hP1 hD1
        generalize H1 = H at hP hS ⊢
        have hP : va_P (dC, dI) vwCl [(rf 18, .inl (c_there, 26, .inl v2)), (rf 20, .inl (c_fields, 26, .inl g_fields)), (rf 21, .inl (c_ranks, 26, .inl g_ranks)), (rf 26, .inl (c_signOf, 106496, .inl g_signOf)), (rf 28, .inl (c_sizes, 4096, .inl g_sizes)), (h0, .inr (8, px_mf rf v3)), (rf 19, .inl (c_elements, 26, .inl v4))] H := hP
        have hD : va_D A [(rf 18, .inl (c_there, 26, .inl v2)), (rf 20, .inl (c_fields, 26, .inl g_fields)), (rf 21, .inl (c_ranks, 26, .inl g_ranks)), (rf 26, .inl (c_signOf, 106496, .inl g_signOf)), (rf 28, .inl (c_sizes, 4096, .inl g_sizes)), (h0, .inr (8, px_mf rf v3)), (rf 19, .inl (c_elements, 26, .inl v4))] := hD
        have hP := hP.sub (ws' := [(h0, .inr (8, px_mf rf v3)), (rf 18, .inl (c_there, 26, .inl v2)), (rf 19, .inl (c_elements, 26, .inl v4)), (rf 20, .inl (c_fields, 26, .inl g_fields)), (rf 21, .inl (c_ranks, 26, .inl g_ranks)), (rf 26, .inl (c_signOf, 106496, .inl g_signOf)), (rf 28, .inl (c_sizes, 4096, .inl g_sizes))]) [5, 0, 6, 1, 2, 3, 4] rfl
        have hD := hD.sub (ws' := [(h0, .inr (8, px_mf rf v3)), (rf 18, .inl (c_there, 26, .inl v2)), (rf 19, .inl (c_elements, 26, .inl v4)), (rf 20, .inl (c_fields, 26, .inl g_fields)), (rf 21, .inl (c_ranks, 26, .inl g_ranks)), (rf 26, .inl (c_signOf, 106496, .inl g_signOf)), (rf 28, .inl (c_sizes, 4096, .inl g_sizes))]) [5, 0, 6, 1, 2, 3, 4] (by decide) rfl
        refine lv_icmp_gt (tgt := 49) hx hb px_d129_27 (by decide) (fun c27 => ?_) (fun c27 => ?_)
        · have hw := hw.1 c27
          exact S49 a1x a2x v3 v2 v4 g_fields g_ranks g_signOf g_sizes H locs ls hP hD hS (lv_sub hl [0, 1, 2] rfl) hw
        · have hw := hw.2 c27
          refine lv_aload_n hx hb px_d129_30 rfl (lv_at hl 0 rfl) ?_
          refine va_get (D := (dC, dI)) (ci := 8) (v := .ref (rf 28)) (C := "MatroidDeskModel") (T := px_T8) (N := 53) hx hb htw px_in8 hown hK hP 0 rfl rfl 28 (by decide) (htw _ px_w513) (fun _ h9 => h9) rfl px_d129_31 ?_
          refine lv_iload_n hx hb px_d129_34 rfl (lv_at hl 2 rfl) ?_
          obtain ⟨hi35, hw⟩ := hw
          refine va_iald hx hb hK hP 6 5 rfl rfl hi35 px_d129_35 ?_
          refine lv_aload_n hx hb px_d129_36 rfl (lv_at hl 0 rfl) ?_
          refine va_get (D := (dC, dI)) (ci := 8) (v := .ref (rf 21)) (C := "MatroidDeskModel") (T := px_T8) (N := 53) hx hb htw px_in8 hown hK hP 0 rfl rfl 21 (by decide) (htw _ px_w504) (fun _ h9 => h9) rfl px_d129_37 ?_
          refine lv_iload_n hx hb px_d129_40 rfl (lv_at hl 1 rfl) ?_
          obtain ⟨hi41, hw⟩ := hw
          refine va_iald hx hb hK hP 4 3 rfl rfl hi41 px_d129_41 ?_
          refine lv_icmp_ne (tgt := 49) hx hb px_d129_42 (by decide) (fun c42 => ?_) (fun c42 => ?_)
          · have hw := hw.1 c42
            exact S49 a1x a2x v3 v2 v4 g_fields g_ranks g_signOf g_sizes H locs ls hP hD hS (lv_sub hl [0, 1, 2] rfl) hw
          · have hw := hw.2 c42
            refine lv_iconst (v := 1) hx hb px_d129_45 (by decide) ?_
            refine lv_goto (tgt := 50) hx hb px_d129_46 (by decide) ?_
            exact S50 a1x a2x 1 v3 v2 v4 g_fields g_ranks g_signOf g_sizes H locs ls hP hD hS (lv_sub hl [0, 1, 2] rfl) hw

/-! MatroidDeskModel.belowOf(II)I -/
def w84_L203 (K110 : Int32 → Int32 → Int32 → Int32 → Int32 → Int32 → Int32 → Int32 → Int32 → (Nat → Int32) → (Nat → Int32) → (Nat → Int32) → (Nat → Int32) → (Nat → Int32) → Prop) (post : Int32 → (Nat → Int32) → (Nat → Int32) → (Nat → Int32) → (Nat → Int32) → (Nat → Int32) → Prop) (x1 : Int32) (x2 : Int32) (x3 : Int32) (x4 : Int32) (x5 : Int32) (x6 : Int32) (x7 : Int32) (x8 : Int32) (x9 : Int32) (iv : Nat → Int32) (g_elements : Nat → Int32) (g_rankOf : Nat → Int32) (g_signOf : Nat → Int32) (g_sorted : Nat → Int32) : Prop := ∀ z1 : Int32, z1 = x9 + 1 → K110 x1 x2 x3 x4 x5 x6 x7 x8 z1 iv g_elements g_rankOf g_signOf g_sorted
def w84_L198 (K110 : Int32 → Int32 → Int32 → Int32 → Int32 → Int32 → Int32 → Int32 → Int32 → (Nat → Int32) → (Nat → Int32) → (Nat → Int32) → (Nat → Int32) → (Nat → Int32) → Prop) (post : Int32 → (Nat → Int32) → (Nat → Int32) → (Nat → Int32) → (Nat → Int32) → (Nat → Int32) → Prop) (x1 : Int32) (x2 : Int32) (x3 : Int32) (x4 : Int32) (x5 : Int32) (x6 : Int32) (x7 : Int32) (x8 : Int32) (x9 : Int32) (x10 : Int32) (y0 : Int32) (iv : Nat → Int32) (g_elements : Nat → Int32) (g_rankOf : Nat → Int32) (g_signOf : Nat → Int32) (g_sorted : Nat → Int32) : Prop := ∀ z2 : Int32, z2 = x8 + 1 → w84_L203 K110 post x1 x2 x3 x4 x5 y0 x7 z2 x9 iv g_elements g_rankOf g_signOf g_sorted
def w84_L177 (K110 : Int32 → Int32 → Int32 → Int32 → Int32 → Int32 → Int32 → Int32 → Int32 → (Nat → Int32) → (Nat → Int32) → (Nat → Int32) → (Nat → Int32) → (Nat → Int32) → Prop) (post : Int32 → (Nat → Int32) → (Nat → Int32) → (Nat → Int32) → (Nat → Int32) → (Nat → Int32) → Prop) (x1 : Int32) (x2 : Int32) (x3 : Int32) (x4 : Int32) (x5 : Int32) (x6 : Int32) (x7 : Int32) (x8 : Int32) (x9 : Int32) (x10 : Int32) (y0 : Int32) (iv : Nat → Int32) (g_elements : Nat → Int32) (g_rankOf : Nat → Int32) (g_signOf : Nat → Int32) (g_sorted : Nat → Int32) : Prop := (¬ x10 = y0 → w84_L198 K110 post x1 x2 x3 x4 x5 x6 y0 x8 x9 x10 (x6 ||| (1 <<< (x9 &&& 31))) iv g_elements g_rankOf g_signOf g_sorted) ∧ (x10 = y0 → w84_L198 K110 post x1 x2 x3 x4 x5 x6 y0 x8 x9 x10 x6 iv g_elements g_rankOf g_signOf g_sorted)
def w84_L163 (K110 : Int32 → Int32 → Int32 → Int32 → Int32 → Int32 → Int32 → Int32 → Int32 → (Nat → Int32) → (Nat → Int32) → (Nat → Int32) → (Nat → Int32) → (Nat → Int32) → Prop) (post : Int32 → (Nat → Int32) → (Nat → Int32) → (Nat → Int32) → (Nat → Int32) → (Nat → Int32) → Prop) (x1 : Int32) (x2 : Int32) (x3 : Int32) (x4 : Int32) (x5 : Int32) (x6 : Int32) (x7 : Int32) (x8 : Int32) (x9 : Int32) (x10 : Int32) (y0 : Int32) (iv : Nat → Int32) (g_elements : Nat → Int32) (g_rankOf : Nat → Int32) (g_signOf : Nat → Int32) (g_sorted : Nat → Int32) : Prop := (¬ x8 = 0 → w84_L177 K110 post x1 x2 x3 x4 x5 x6 x7 x8 x9 y0 x7 iv g_elements g_rankOf g_signOf g_sorted) ∧ (x8 = 0 → w84_L177 K110 post x1 x2 x3 x4 x5 x6 x7 x8 x9 y0 y0 iv g_elements g_rankOf g_signOf g_sorted)
def w84_L110 (post : Int32 → (Nat → Int32) → (Nat → Int32) → (Nat → Int32) → (Nat → Int32) → (Nat → Int32) → Prop) : Nat → Int32 → Int32 → Int32 → Int32 → Int32 → Int32 → Int32 → Int32 → Int32 → (Nat → Int32) → (Nat → Int32) → (Nat → Int32) → (Nat → Int32) → (Nat → Int32) → Prop
  | 0 => fun _ _ _ _ _ _ _ _ _ _ _ _ _ _ => False
  | k + 1 => fun x1 x2 x3 x4 x5 x6 x7 x8 x9 iv g_elements g_rankOf g_signOf g_sorted => vp_in x1 26 ∧ (((g_elements (Int32.toNatClampNeg x1)) ≤ x9 → post x6 iv g_elements g_rankOf g_signOf g_sorted) ∧ (¬ (g_elements (Int32.toNatClampNeg x1)) ≤ x9 → (¬ ((x2 >>> (x9 &&& 31)) &&& 1) = 0 → w85_wp (fun r143 v3 v4 v5 v6 => (¬ (x8 - x8 / 2 * 2) = 0 → w84_L163 (w84_L110 post k) post x1 x2 x3 x4 x5 x6 x7 x8 x9 r143 (-r143) v3 v4 g_rankOf v5 v6) ∧ ((x8 - x8 / 2 * 2) = 0 → w84_L163 (w84_L110 post k) post x1 x2 x3 x4 x5 x6 x7 x8 x9 r143 r143 v3 v4 g_rankOf v5 v6)) x1 (x2 ^^^ (1 <<< (x9 &&& 31))) x4 iv g_elements g_signOf g_sorted) ∧ (((x2 >>> (x9 &&& 31)) &&& 1) = 0 → w84_L203 (w84_L110 post k) post x1 x2 x3 x4 x5 x6 x7 x8 x9 iv g_elements g_rankOf g_signOf g_sorted)))
def w84_L90 (K29 : Int32 → Int32 → Int32 → Int32 → Int32 → Int32 → (Nat → Int32) → (Nat → Int32) → (Nat → Int32) → (Nat → Int32) → (Nat → Int32) → Prop) (post : Int32 → (Nat → Int32) → (Nat → Int32) → (Nat → Int32) → (Nat → Int32) → (Nat → Int32) → Prop) (x1 : Int32) (x2 : Int32) (x3 : Int32) (x4 : Int32) (x5 : Int32) (x6 : Int32) (x7 : Int32) (y0 : Int32) (iv : Nat → Int32) (g_elements : Nat → Int32) (g_rankOf : Nat → Int32) (g_signOf : Nat → Int32) (g_sorted : Nat → Int32) : Prop := ∀ z7 : Int32, z7 = x6 + 1 → K29 x1 x2 x3 y0 x5 z7 iv g_elements g_rankOf g_signOf g_sorted
def w84_L88 (K29 : Int32 → Int32 → Int32 → Int32 → Int32 → Int32 → (Nat → Int32) → (Nat → Int32) → (Nat → Int32) → (Nat → Int32) → (Nat → Int32) → Prop) (post : Int32 → (Nat → Int32) → (Nat → Int32) → (Nat → Int32) → (Nat → Int32) → (Nat → Int32) → Prop) (x1 : Int32) (x2 : Int32) (x3 : Int32) (x4 : Int32) (x5 : Int32) (x6 : Int32) (x7 : Int32) (iv : Nat → Int32) (g_elements : Nat → Int32) (g_rankOf : Nat → Int32) (g_signOf : Nat → Int32) (g_sorted : Nat → Int32) : Prop := w84_L90 K29 post x1 x2 x3 x4 x5 x6 x7 x4 iv g_elements g_rankOf g_signOf g_sorted
def w84_L29 (post : Int32 → (Nat → Int32) → (Nat → Int32) → (Nat → Int32) → (Nat → Int32) → (Nat → Int32) → Prop) : Nat → Int32 → Int32 → Int32 → Int32 → Int32 → Int32 → (Nat → Int32) → (Nat → Int32) → (Nat → Int32) → (Nat → Int32) → (Nat → Int32) → Prop
  | 0 => fun _ _ _ _ _ _ _ _ _ _ _ => False
  | k + 1 => fun x1 x2 x3 x4 x5 x6 iv g_elements g_rankOf g_signOf g_sorted => vp_in x1 26 ∧ (((g_elements (Int32.toNatClampNeg x1)) ≤ x6 → ∃ j110, w84_L110 post j110 x1 x2 x3 x4 x5 0 0 0 0 iv g_elements g_rankOf g_signOf g_sorted) ∧ (¬ (g_elements (Int32.toNatClampNeg x1)) ≤ x6 → ∀ z8 : Int32, z8 = x5 ||| x4 → (¬ ((x2 >>> (x6 &&& 31)) &&& 1) = 0 → w84_L88 (w84_L29 post k) post x1 x2 x3 x4 x5 x6 z8 iv g_elements g_rankOf g_signOf g_sorted) ∧ (((x2 >>> (x6 &&& 31)) &&& 1) = 0 → w70_wp (fun r65 v9 v10 => w70_wp (fun r72 v11 v12 => (r65 ≤ r72 → w84_L88 (w84_L29 post k) post x1 x2 x3 x4 x5 x6 z8 v11 g_elements v12 g_signOf g_sorted) ∧ (¬ r65 ≤ r72 → w84_L90 (w84_L29 post k) post x1 x2 x3 x4 x5 x6 z8 (x4 ||| (1 <<< (x6 &&& 31))) v11 g_elements v12 g_signOf g_sorted)) x1 z8 v9 v10) x1 (z8 ||| (1 <<< (x6 &&& 31))) iv g_rankOf)))
def w84_L2 (post : Int32 → (Nat → Int32) → (Nat → Int32) → (Nat → Int32) → (Nat → Int32) → (Nat → Int32) → Prop) : Nat → Int32 → Int32 → Int32 → (Nat → Int32) → (Nat → Int32) → (Nat → Int32) → (Nat → Int32) → (Nat → Int32) → Prop
  | 0 => fun _ _ _ _ _ _ _ _ => False
  | k + 1 => fun x1 x2 x3 iv g_elements g_rankOf g_signOf g_sorted => (¬ ((x2 >>> (x3 &&& 31)) &&& 1) = 0 → ∀ z13 : Int32, z13 = x2 ^^^ (1 <<< (x3 &&& 31)) → ∃ j29, w84_L29 post j29 x1 x2 x3 0 z13 0 iv g_elements g_rankOf g_signOf g_sorted) ∧ (((x2 >>> (x3 &&& 31)) &&& 1) = 0 → ∀ z14 : Int32, z14 = x3 + 1 → (w84_L2 post k) x1 x2 z14 iv g_elements g_rankOf g_signOf g_sorted)
def w84_wp (post : Int32 → (Nat → Int32) → (Nat → Int32) → (Nat → Int32) → (Nat → Int32) → (Nat → Int32) → Prop) (a1x : Int32) (a2x : Int32) (iv : Nat → Int32) (g_elements : Nat → Int32) (g_rankOf : Nat → Int32) (g_signOf : Nat → Int32) (g_sorted : Nat → Int32) : Prop := ∃ j2, w84_L2 post j2 a1x a2x 0 iv g_elements g_rankOf g_signOf g_sorted
set_option maxHeartbeats 8000000 in
set_option maxRecDepth 100000 in
theorem w84_met (l : Launch) (dC : Nat → ClassId) (dI : Nat → Nat → Nat) (sz : Nat) (h0 : Nat) (rf : Nat → Nat) (c_elements : ClassId) (c_rankOf : ClassId) (c_signOf : ClassId) (c_sorted : ClassId) (a1x : Int32) (a2x : Int32) (iv : Nat → Int32) (g_elements : Nat → Int32) (g_rankOf : Nat → Int32) (g_signOf : Nat → Int32) (g_sorted : Nat → Int32) (post : Int32 → (Nat → Int32) → (Nat → Int32) → (Nat → Int32) → (Nat → Int32) → (Nat → Int32) → Prop) (hw : w84_wp post a1x a2x iv g_elements g_rankOf g_signOf g_sorted) : Met l px_y84 px_s84 ({ frames := 2, cells := 0, slots := 0, locals := 50 }) (va_Pc [.ref h0, .int a1x, .int a2x] (fun U => U.heap.size = sz ∧ va_P (dC, dI) vwCl [(h0, .inr (8, px_mf rf iv)), (rf 19, .inl (c_elements, 26, .inl g_elements)), (rf 25, .inl (c_rankOf, 106496, .inl g_rankOf)), (rf 26, .inl (c_signOf, 106496, .inl g_signOf)), (rf 31, .inl (c_sorted, 13, .inl g_sorted))] U.heap ∧ va_K (dC, dI) vwCl [(c_elements, .int), (c_rankOf, .byte), (c_signOf, .byte), (c_sorted, .int)] U ∧ va_D (fun _ => True) [(h0, .inr (8, px_mf rf iv)), (rf 19, .inl (c_elements, 26, .inl g_elements)), (rf 25, .inl (c_rankOf, 106496, .inl g_rankOf)), (rf 26, .inl (c_signOf, 106496, .inl g_signOf)), (rf 31, .inl (c_sorted, 13, .inl g_sorted))] ∧ px_N U)) (va_Qi (fun (r : Int32) (u : (Nat → Int32) × (Nat → Int32) × (Nat → Int32) × (Nat → Int32) × (Nat → Int32)) => post r u.1 u.2.1 u.2.2.1 u.2.2.2.1 u.2.2.2.2) (fun (u : (Nat → Int32) × (Nat → Int32) × (Nat → Int32) × (Nat → Int32) × (Nat → Int32)) (t : State) => va_P (dC, dI) vwCl [(h0, .inr (8, px_mf rf u.1)), (rf 19, .inl (c_elements, 26, .inl u.2.1)), (rf 25, .inl (c_rankOf, 106496, .inl u.2.2.1)), (rf 26, .inl (c_signOf, 106496, .inl u.2.2.2.1)), (rf 31, .inl (c_sorted, 13, .inl u.2.2.2.2))] t.heap ∧ va_K (dC, dI) vwCl [(c_elements, .int), (c_rankOf, .byte), (c_signOf, .byte), (c_sorted, .int)] t ∧ va_D (va_A [(h0, .inr (8, px_mf rf iv)), (rf 19, .inl (c_elements, 26, .inl g_elements)), (rf 25, .inl (c_rankOf, 106496, .inl g_rankOf)), (rf 26, .inl (c_signOf, 106496, .inl g_signOf)), (rf 31, .inl (c_sorted, 13, .inl g_sorted))] sz) [(h0, .inr (8, px_mf rf u.1)), (rf 19, .inl (c_elements, 26, .inl u.2.1)), (rf 25, .inl (c_rankOf, 106496, .inl u.2.2.1)), (rf 26, .inl (c_signOf, 106496, .inl u.2.2.2.1)), (rf 31, .inl (c_sorted, 13, .inl u.2.2.2.2))]) (va_A [(h0, .inr (8, px_mf rf iv)), (rf 19, .inl (c_elements, 26, .inl g_elements)), (rf 25, .inl (c_rankOf, 106496, .inl g_rankOf)), (rf 26, .inl (c_signOf, 106496, .inl g_signOf)), (rf 31, .inl (c_sorted, 13, .inl g_sorted))] sz)) 0 0 (va_A [(h0, .inr (8, px_mf rf iv)), (rf 19, .inl (c_elements, 26, .inl g_elements)), (rf 25, .inl (c_rankOf, 106496, .inl g_rankOf)), (rf 26, .inl (c_signOf, 106496, .inl g_signOf)), (rf 31, .inl (c_sorted, 13, .inl g_sorted))] sz) := by
  refine Met.ofW (cc := prog_15_method_39_code) (maxL := 11) (ret := (some .int)) (by decide) rfl ?_
  intro p e s m args below meth c s₁ B hml hv
  obtain ⟨rfl, hsz, hP, hK, hD0, hN⟩ := hv
  have hx := B.exec
  have hb := B.bytes
  have hr := B.returns
  have htw : ∀ w ∈ px_all, w.before _ s = true := fun w h => atoms_spec (ws := px_s84) B.pre w (List.mem_cons_of_mem _ h)
  have hown : s.vm.findClass "MatroidDeskModel" = some m.cls := findClass_of_methodNamed B.named
  have hlocks := B.notSynchronized
  subst hsz
  have hD := hD0.self (sz := s.heap.size)
  generalize hAe : va_A [(h0, .inr (8, px_mf rf iv)), (rf 19, .inl (c_elements, 26, .inl g_elements)), (rf 25, .inl (c_rankOf, 106496, .inl g_rankOf)), (rf 26, .inl (c_signOf, 106496, .inl g_signOf)), (rf 31, .inl (c_sorted, 13, .inl g_sorted))] s.heap.size = A at hD ⊢
  have hA : ∀ q : Nat, s.heap.size ≤ q → A q := fun q h => by rw [← hAe]; exact Or.inr h
  have hS : va_S A s.heap s.heap [] := va_S.rf
  have hP : va_P (dC, dI) vwCl [(h0, .inr (8, px_mf rf iv)), (rf 19, .inl (c_elements, 26, .inl g_elements)), (rf 25, .inl (c_rankOf, 106496, .inl g_rankOf)), (rf 26, .inl (c_signOf, 106496, .inl g_signOf)), (rf 31, .inl (c_sorted, 13, .inl g_sorted))] s.heap := hP
  have hl := lv_entry ([.ref h0, .int a1x, .int a2x]) (n := 11) (Nat.le_of_ble_eq_true rfl)
  rw [lg_entry_eq]
  generalize (lg_sl ([.ref h0, .int a1x, .int a2x]) ++ List.replicate (11 - (lg_sl ([.ref h0, .int a1x, .int a2x])).length) Slot.unset).toArray = ls at hl ⊢
  have hl : lv_has ls 11 [(0, .ref h0), (1, .int a1x), (2, .int a2x)] := hl
  generalize hQ : MQ _ _ _ _ _ _ _ = Q
  have S110 : ∀ (k110 : Nat) (x1 : Int32) (x2 : Int32) (x3 : Int32) (x4 : Int32) (x5 : Int32) (x6 : Int32) (x7 : Int32) (x8 : Int32) (x9 : Int32) (iv : Nat → Int32) (g_elements : Nat → Int32) (g_rankOf : Nat → Int32) (g_signOf : Nat → Int32) (g_sorted : Nat → Int32) (H : Heap) (locs : List Loc) (ls : Array Slot), va_P (dC, dI) vwCl [(h0, .inr (8, px_mf rf iv)), (rf 19, .inl (c_elements, 26, .inl g_elements)), (rf 25, .inl (c_rankOf, 106496, .inl g_rankOf)), (rf 26, .inl (c_signOf, 106496, .inl g_signOf)), (rf 31, .inl (c_sorted, 13, .inl g_sorted))] H → va_D A [(h0, .inr (8, px_mf rf iv)), (rf 19, .inl (c_elements, 26, .inl g_elements)), (rf 25, .inl (c_rankOf, 106496, .inl g_rankOf)), (rf 26, .inl (c_signOf, 106496, .inl g_signOf)), (rf 31, .inl (c_sorted, 13, .inl g_sorted))] → va_S A s.heap H locs → lv_has ls 11 [(0, .ref h0), (1, .int x1), (2, .int x2), (3, .int x3), (4, .int x4), (5, .int x5), (6, .int x6), (7, .int x7), (8, .int x8), (9, .int x9)] → w84_L110 post k110 x1 x2 x3 x4 x5 x6 x7 x8 x9 iv g_elements g_rankOf g_signOf g_sorted → W p l e (headSpec px_s84 ({ frames := 2, cells := 0, slots := 0, locals := 50 })).room s m ([.ref h0, .int a1x, .int a2x]).toArray below meth c H locs 0 0 Q (F0 m 110 ls []) := by
    intro k110
    induction k110 with
    | zero => intro x1 x2 x3 x4 x5 x6 x7 x8 x9 iv g_elements g_rankOf g_signOf g_sorted H locs ls hP hD hS hl hw; exact False.elim hw
    | succ k110 ih110 =>
      have S203 : ∀ (x1 : Int32) (x2 : Int32) (x3 : Int32) (x4 : Int32) (x5 : Int32) (x6 : Int32) (x7 : Int32) (x8 : Int32) (x9 : Int32) (iv : Nat → Int32) (g_elements : Nat → Int32) (g_rankOf : Nat → Int32) (g_signOf : Nat → Int32) (g_sorted : Nat → Int32) (H : Heap) (locs : List Loc) (ls : Array Slot), va_P (dC, dI) vwCl [(h0, .inr (8, px_mf rf iv)), (rf 19, .inl (c_elements, 26, .inl g_elements)), (rf 25, .inl (c_rankOf, 106496, .inl g_rankOf)), (rf 26, .inl (c_signOf, 106496, .inl g_signOf)), (rf 31, .inl (c_sorted, 13, .inl g_sorted))] H → va_D A [(h0, .inr (8, px_mf rf iv)), (rf 19, .inl (c_elements, 26, .inl g_elements)), (rf 25, .inl (c_rankOf, 106496, .inl g_rankOf)), (rf 26, .inl (c_signOf, 106496, .inl g_signOf)), (rf 31, .inl (c_sorted, 13, .inl g_sorted))] → va_S A s.heap H locs → lv_has ls 11 [(0, .ref h0), (1, .int x1), (2, .int x2), (3, .int x3), (4, .int x4), (5, .int x5), (6, .int x6), (7, .int x7), (8, .int x8), (9, .int x9)] → w84_L203 (w84_L110 post k110) post x1 x2 x3 x4 x5 x6 x7 x8 x9 iv g_elements g_rankOf g_signOf g_sorted → W p l e (headSpec px_s84 ({ frames := 2, cells := 0, slots := 0, locals := 50 })).room s m ([.ref h0, .int a1x, .int a2x]).toArray below meth c H locs 0 0 Q (F0 m 203 ls []) := by
        intro x1 x2 x3 x4 x5 x6 x7 x8 x9 iv g_elements g_rankOf g_signOf g_sorted H locs ls hP hD hS hl hw
        unfold w84_L203 at hw
        obtain ⟨z1, ez1⟩ : ∃ y : Int32, y = x9 + 1 := ⟨_, rfl⟩
        have hw := hw z1 ez1
        refine lv_iinc (v := z1) (lv' := [(9, .int z1), (0, .ref h0), (1, .int x1), (2, .int x2), (3, .int x3), (4, .int x4), (5, .int x5), (6, .int x6), (7, .int x7), (8, .int x8)]) hx hb px_d84_203 hl (k := 9) rfl (by rw [ez1]; rfl) (by decide) rfl (fun ls hl => ?_)
        refine lv_goto (tgt := 110) hx hb px_d84_206 (by decide) ?_
        exact ih110 x1 x2 x3 x4 x5 x6 x7 x8 z1 iv g_elements g_rankOf g_signOf g_sorted H locs ls hP hD hS (lv_sub hl [1, 2, 3, 4, 5, 6, 7, 8, 9, 0] rfl) hw
      have S198 : ∀ (x1 : Int32) (x2 : Int32) (x3 : Int32) (x4 : Int32) (x5 : Int32) (x6 : Int32) (x7 : Int32) (x8 : Int32) (x9 : Int32) (x10 : Int32) (y0 : Int32) (iv : Nat → Int32) (g_elements : Nat → Int32) (g_rankOf : Nat → Int32) (g_signOf : Nat → Int32) (g_sorted : Nat → Int32) (H : Heap) (locs : List Loc) (ls : Array Slot), va_P (dC, dI) vwCl [(h0, .inr (8, px_mf rf iv)), (rf 19, .inl (c_elements, 26, .inl g_elements)), (rf 25, .inl (c_rankOf, 106496, .inl g_rankOf)), (rf 26, .inl (c_signOf, 106496, .inl g_signOf)), (rf 31, .inl (c_sorted, 13, .inl g_sorted))] H → va_D A [(h0, .inr (8, px_mf rf iv)), (rf 19, .inl (c_elements, 26, .inl g_elements)), (rf 25, .inl (c_rankOf, 106496, .inl g_rankOf)), (rf 26, .inl (c_signOf, 106496, .inl g_signOf)), (rf 31, .inl (c_sorted, 13, .inl g_sorted))] → va_S A s.heap H locs → lv_has ls 11 [(0, .ref h0), (1, .int x1), (2, .int x2), (3, .int x3), (4, .int x4), (5, .int x5), (6, .int x6), (7, .int x7), (8, .int x8), (9, .int x9), (10, .int x10)] → w84_L198 (w84_L110 post k110) post x1 x2 x3 x4 x5 x6 x7 x8 x9 x10 y0 iv g_elements g_rankOf g_signOf g_sorted → W p l e (headSpec px_s84 ({ frames := 2, cells := 0, slots := 0, locals := 50 })).room s m ([.ref h0, .int a1x, .int a2x]).toArray below meth c H locs 0 0 Q (F0 m 198 ls [.int y0]) := by
        intro x1 x2 x3 x4 x5 x6 x7 x8 x9 x10 y0 iv g_elements g_rankOf g_signOf g_sorted H locs ls hP hD hS hl hw
        unfold w84_L198 at hw
        refine lv_istore (lv' := [(6, .int y0), (0, .ref h0), (1, .int x1), (2, .int x2), (3, .int x3), (4, .int x4), (5, .int x5), (7, .int x7), (8, .int x8), (9, .int x9), (10, .int x10)]) hx hb px_d84_198 hl (by decide) rfl (fun ls hl => ?_)
        obtain ⟨z2, ez2⟩ : ∃ y : Int32, y = x8 + 1 := ⟨_, rfl⟩
        have hw := hw z2 ez2
        refine lv_iinc (v := z2) (lv' := [(8, .int z2), (6, .int y0), (0, .ref h0), (1, .int x1), (2, .int x2), (3, .int x3), (4, .int x4), (5, .int x5), (7, .int x7), (9, .int x9), (10, .int x10)]) hx hb px_d84_200 hl (k := 8) rfl (by rw [ez2]; rfl) (by decide) rfl (fun ls hl => ?_)
        exact S203 x1 x2 x3 x4 x5 y0 x7 z2 x9 iv g_elements g_rankOf g_signOf g_sorted H locs ls hP hD hS (lv_sub hl [2, 3, 4, 5, 6, 7, 1, 8, 0, 9] rfl) hw
      have S177 : ∀ (x1 : Int32) (x2 : Int32) (x3 : Int32) (x4 : Int32) (x5 : Int32) (x6 : Int32) (x7 : Int32) (x8 : Int32) (x9 : Int32) (x10 : Int32) (y0 : Int32) (iv : Nat → Int32) (g_elements : Nat → Int32) (g_rankOf : Nat → Int32) (g_signOf : Nat → Int32) (g_sorted : Nat → Int32) (H : Heap) (locs : List Loc) (ls : Array Slot), va_P (dC, dI) vwCl [(h0, .inr (8, px_mf rf iv)), (rf 19, .inl (c_elements, 26, .inl g_elements)), (rf 25, .inl (c_rankOf, 106496, .inl g_rankOf)), (rf 26, .inl (c_signOf, 106496, .inl g_signOf)), (rf 31, .inl (c_sorted, 13, .inl g_sorted))] H → va_D A [(h0, .inr (8, px_mf rf iv)), (rf 19, .inl (c_elements, 26, .inl g_elements)), (rf 25, .inl (c_rankOf, 106496, .inl g_rankOf)), (rf 26, .inl (c_signOf, 106496, .inl g_signOf)), (rf 31, .inl (c_sorted, 13, .inl g_sorted))] → va_S A s.heap H locs → lv_has ls 11 [(0, .ref h0), (1, .int x1), (2, .int x2), (3, .int x3), (4, .int x4), (5, .int x5), (6, .int x6), (7, .int x7), (8, .int x8), (9, .int x9), (10, .int x10)] → w84_L177 (w84_L110 post k110) post x1 x2 x3 x4 x5 x6 x7 x8 x9 x10 y0 iv g_elements g_rankOf g_signOf g_sorted → W p l e (headSpec px_s84 ({ frames := 2, cells := 0, slots := 0, locals := 50 })).room s m ([.ref h0, .int a1x, .int a2x]).toArray below meth c H locs 0 0 Q (F0 m 177 ls [.int y0]) := by
        intro x1 x2 x3 x4 x5 x6 x7 x8 x9 x10 y0 iv g_elements g_rankOf g_signOf g_sorted H locs ls hP hD hS hl hw
        unfold w84_L177 at hw
        refine lv_istore (lv' := [(7, .int y0), (0, .ref h0), (1, .int x1), (2, .int x2), (3, .int x3), (4, .int x4), (5, .int x5), (6, .int x6), (8, .int x8), (9, .int x9), (10, .int x10)]) hx hb px_d84_177 hl (by decide) rfl (fun ls hl => ?_)
        refine lv_iload hx hb px_d84_179 (lv_at hl 10 rfl) ?_
        refine lv_iload hx hb px_d84_181 (lv_at hl 0 rfl) ?_
        refine lv_icmp_ne (tgt := 191) hx hb px_d84_183 (by decide) (fun c183 => ?_) (fun c183 => ?_)
        · have hw := hw.1 c183
          refine lv_iload hx hb px_d84_191 (lv_at hl 7 rfl) ?_
          refine lv_iconst (v := 1) hx hb px_d84_193 (by decide) ?_
          refine lv_iload hx hb px_d84_194 (lv_at hl 9 rfl) ?_
          refine lv_ishl hx hb px_d84_196 ?_
          refine lv_ior hx hb px_d84_197 ?_
          exact S198 x1 x2 x3 x4 x5 x6 y0 x8 x9 x10 (x6 ||| (1 <<< (x9 &&& 31))) iv g_elements g_rankOf g_signOf g_sorted H locs ls hP hD hS (lv_sub hl [1, 2, 3, 4, 5, 6, 7, 0, 8, 9, 10] rfl) hw
        · have hw := hw.2 c183
          refine lv_iload hx hb px_d84_186 (lv_at hl 7 rfl) ?_
          refine lv_goto (tgt := 198) hx hb px_d84_188 (by decide) ?_
          exact S198 x1 x2 x3 x4 x5 x6 y0 x8 x9 x10 x6 iv g_elements g_rankOf g_signOf g_sorted H locs ls hP hD hS (lv_sub hl [1, 2, 3, 4, 5, 6, 7, 0, 8, 9, 10] rfl) hw
      have S163 : ∀ (x1 : Int32) (x2 : Int32) (x3 : Int32) (x4 : Int32) (x5 : Int32) (x6 : Int32) (x7 : Int32) (x8 : Int32) (x9 : Int32) (x10 : Int32) (y0 : Int32) (iv : Nat → Int32) (g_elements : Nat → Int32) (g_rankOf : Nat → Int32) (g_signOf : Nat → Int32) (g_sorted : Nat → Int32) (H : Heap) (locs : List Loc) (ls : Array Slot), va_P (dC, dI) vwCl [(h0, .inr (8, px_mf rf iv)), (rf 19, .inl (c_elements, 26, .inl g_elements)), (rf 25, .inl (c_rankOf, 106496, .inl g_rankOf)), (rf 26, .inl (c_signOf, 106496, .inl g_signOf)), (rf 31, .inl (c_sorted, 13, .inl g_sorted))] H → va_D A [(h0, .inr (8, px_mf rf iv)), (rf 19, .inl (c_elements, 26, .inl g_elements)), (rf 25, .inl (c_rankOf, 106496, .inl g_rankOf)), (rf 26, .inl (c_signOf, 106496, .inl g_signOf)), (rf 31, .inl (c_sorted, 13, .inl g_sorted))] → va_S A s.heap H locs → lv_has ls 11 [(0, .ref h0), (1, .int x1), (2, .int x2), (3, .int x3), (4, .int x4), (5, .int x5), (6, .int x6), (7, .int x7), (8, .int x8), (9, .int x9), (10, .int x10)] → w84_L163 (w84_L110 post k110) post x1 x2 x3 x4 x5 x6 x7 x8 x9 x10 y0 iv g_elements g_rankOf g_signOf g_sorted → W p l e (headSpec px_s84 ({ frames := 2, cells := 0, slots := 0, locals := 50 })).room s m ([.ref h0, .int a1x, .int a2x]).toArray below meth c H locs 0 0 Q (F0 m 163 ls [.int y0]) := by
        intro x1 x2 x3 x4 x5 x6 x7 x8 x9 x10 y0 iv g_elements g_rankOf g_signOf g_sorted H locs ls hP hD hS hl hw
        unfold w84_L163 at hw
        refine lv_istore (lv' := [(10, .int y0), (0, .ref h0), (1, .int x1), (2, .int x2), (3, .int x3), (4, .int x4), (5, .int x5), (6, .int x6), (7, .int x7), (8, .int x8), (9, .int x9)]) hx hb px_d84_163 hl (by decide) rfl (fun ls hl => ?_)
        refine lv_iload hx hb px_d84_165 (lv_at hl 9 rfl) ?_
        refine lv_if_ne (tgt := 175) hx hb px_d84_167 (by decide) (fun c167 => ?_) (fun c167 => ?_)
        · have hw := hw.1 c167
          refine lv_iload hx hb px_d84_175 (lv_at hl 8 rfl) ?_
          exact S177 x1 x2 x3 x4 x5 x6 x7 x8 x9 y0 x7 iv g_elements g_rankOf g_signOf g_sorted H locs ls hP hD hS (lv_sub hl [1, 2, 3, 4, 5, 6, 7, 8, 9, 10, 0] rfl) hw
        · have hw := hw.2 c167
          refine lv_iload hx hb px_d84_170 (lv_at hl 0 rfl) ?_
          refine lv_goto (tgt := 177) hx hb px_d84_172 (by decide) ?_
          exact S177 x1 x2 x3 x4 x5 x6 x7 x8 x9 y0 y0 iv g_elements g_rankOf g_signOf g_sorted H locs ls hP hD hS (lv_sub hl [1, 2, 3, 4, 5, 6, 7, 8, 9, 10, 0] rfl) hw
      intro x1 x2 x3 x4 x5 x6 x7 x8 x9 iv g_elements g_rankOf g_signOf g_sorted H locs ls hP hD hS hl hw
      unfold w84_L110 at hw
      refine lv_iload hx hb px_d84_110 (lv_at hl 9 rfl) ?_
      refine lv_aload_n hx hb px_d84_112 rfl (lv_at hl 0 rfl) ?_
      refine va_get (D := (dC, dI)) (ci := 8) (v := .ref (rf 19)) (C := "MatroidDeskModel") (T := px_T8) (N := 53) hx hb htw px_in8 hown hK hP 0 rfl rfl 19 (by decide) (htw _ px_w502) (fun _ h9 => h9) rfl px_d84_113 ?_
      refine lv_iload_n hx hb px_d84_116 rfl (lv_at hl 1 rfl) ?_
      obtain ⟨hi117, hw⟩ := hw
      refine va_iald hx hb hK hP 1 0 rfl rfl hi117 px_d84_117 ?_
      refine lv_icmp_ge (tgt := 209) hx hb px_d84_118 (by decide) (fun c118 => ?_) (fun c118 => ?_)
      · have hw := hw.1 c118
        refine lv_iload hx hb px_d84_209 (lv_at hl 6 rfl) ?_
        rw [← hQ]
        exact W.iret (v := x6) hx hb hr (fun t ht hW => ⟨⟨x6, (iv, g_elements, g_rankOf, g_signOf, g_sorted), rfl, hw, by rw [ht]; exact hP, va_K.moved hW.alike hK, hD⟩, hS.F ht⟩) hS.2.2 px_d84_211
      · have hw := hw.2 c118
        refine lv_iload_n hx hb px_d84_121 rfl (lv_at hl 2 rfl) ?_
        refine lv_iload hx hb px_d84_122 (lv_at hl 9 rfl) ?_
        refine lv_ishr hx hb px_d84_124 ?_
        refine lv_iconst (v := 1) hx hb px_d84_125 (by decide) ?_
        refine lv_iand hx hb px_d84_126 ?_
        refine lv_if_ne (tgt := 133) hx hb px_d84_127 (by decide) (fun c127 => ?_) (fun c127 => ?_)
        · have hw := hw.1 c127
          refine lv_aload_n hx hb px_d84_133 rfl (lv_at hl 0 rfl) ?_
          refine lv_iload_n hx hb px_d84_134 rfl (lv_at hl 1 rfl) ?_
          refine lv_iload_n hx hb px_d84_135 rfl (lv_at hl 2 rfl) ?_
          refine lv_iconst (v := 1) hx hb px_d84_136 (by decide) ?_
          refine lv_iload hx hb px_d84_137 (lv_at hl 9 rfl) ?_
          refine lv_ishl hx hb px_d84_139 ?_
          refine lv_ixor hx hb px_d84_140 ?_
          refine lv_iload hx hb px_d84_141 (lv_at hl 4 rfl) ?_
          have hPc := hP.sub (ws' := [(h0, .inr (8, px_mf rf iv)), (rf 19, .inl (c_elements, 26, .inl g_elements)), (rf 26, .inl (c_signOf, 106496, .inl g_signOf)), (rf 31, .inl (c_sorted, 13, .inl g_sorted))]) [0, 1, 3, 4] rfl
          have hDc := hD.sub (ws' := [(h0, .inr (8, px_mf rf iv)), (rf 19, .inl (c_elements, 26, .inl g_elements)), (rf 26, .inl (c_signOf, 106496, .inl g_signOf)), (rf 31, .inl (c_sorted, 13, .inl g_sorted))]) [0, 1, 3, 4] (by decide) rfl
          have hKc := hK.sub (tys' := [(c_elements, .int), (c_signOf, .byte), (c_sorted, .int)]) [0, 2, 3] rfl
          have hFc := va_free (wc := [(h0, .inr (8, px_mf rf iv)), (rf 19, .inl (c_elements, 26, .inl g_elements)), (rf 26, .inl (c_signOf, 106496, .inl g_signOf)), (rf 31, .inl (c_sorted, 13, .inl g_sorted))]) hD hS hA [0, 1, 3, 4] rfl
          refine va_calli (va_runV (As := [.int x1, .int (x2 ^^^ (1 <<< (x9 &&& 31))), .int x4]) (rest := []) ⟨hx, hb, hml, hown, htw⟩ (w85_met l dC dI H.size h0 rf c_elements c_signOf c_sorted x1 (x2 ^^^ (1 <<< (x9 &&& 31))) x4 iv g_elements g_signOf g_sorted _ hw) (cwV 3 htw (px_gv px_w604 px_w606 px_w607 px_w94 px_g85) rfl rfl rfl (by decide +kernel) ⟨Nat.le_of_ble_eq_true rfl, Nat.le_of_ble_eq_true rfl⟩) ⟨fun a U g mk q => by obtain ⟨q0, q1, qP, qK, qD, qN⟩ := q; exact ⟨q0, q1, qP, va_K.moved (u := U) (U := U.calling g mk a) (Vm.Alike.refl U.vm) qK, qD, qN.same rfl⟩, va_recv hK hP (ci := 8) (q0 := 0) rfl rfl, fun U hU hW => ⟨rfl, by rw [hU], by rw [hU]; exact hPc, va_K.moved hW.alike hKc, hDc.weaken (fun _ _ _ _ => trivial), hN.warm hW⟩⟩ rfl rfl hl.1 rfl (lv_room (Nat.le_of_ble_eq_true rfl)) px_d84_143 ⟨(Nat.le_of_ble_eq_true rfl), (Nat.le_of_ble_eq_true rfl)⟩) hS (fun q _ h => hFc q h) hFc (fun r143 u t H1 locs ht hvm hw hB hz1 hk1 hS => ?_)
          obtain ⟨v3, v4, v5, v6⟩ := u
          obtain ⟨hP1, hK1, hD1⟩ := hB
          rw [ht] at hP1
          have hK1 := va_K.moved hvm.symm hK1
          obtain ⟨hP, hD⟩ := va_join (wr := [(rf 25, .inl (c_rankOf, 106496, .inl g_rankOf))]) (w1 := [(h0, .inr (8, px_mf rf v3)), (rf 19, .inl (c_elements, 26, .inl v4)), (rf 26, .inl (c_signOf, 106496, .inl v5)), (rf 31, .inl (c_sorted, 13, .inl v6))]) hP hD [0, 1, 3, 4] [2] rfl rfl (by decide) (by decide) hk1 hFc hP1 hD1
          generalize H1 = H at hP hS ⊢
          have hP : va_P (dC, dI) vwCl [(rf 25, .inl (c_rankOf, 106496, .inl g_rankOf)), (h0, .inr (8, px_mf rf v3)), (rf 19, .inl (c_elements, 26, .inl v4)), (rf 26, .inl (c_signOf, 106496, .inl v5)), (rf 31, .inl (c_sorted, 13, .inl v6))] H := hP
          have hD : va_D A [(rf 25, .inl (c_rankOf, 106496, .inl g_rankOf)), (h0, .inr (8, px_mf rf v3)), (rf 19, .inl (c_elements, 26, .inl v4)), (rf 26, .inl (c_signOf, 106496, .inl v5)), (rf 31, .inl (c_sorted, 13, .inl v6))] := hD
          have hP := hP.sub (ws' := [(h0, .inr (8, px_mf rf v3)), (rf 19, .inl (c_elements, 26, .inl v4)), (rf 25, .inl (c_rankOf, 106496, .inl g_rankOf)), (rf 26, .inl (c_signOf, 106496, .inl v5)), (rf 31, .inl (c_sorted, 13, .inl v6))]) [1, 2, 0, 3, 4] rfl
          have hD := hD.sub (ws' := [(h0, .inr (8, px_mf rf v3)), (rf 19, .inl (c_elements, 26, .inl v4)), (rf 25, .inl (c_rankOf, 106496, .inl g_rankOf)), (rf 26, .inl (c_signOf, 106496, .inl v5)), (rf 31, .inl (c_sorted, 13, .inl v6))]) [1, 2, 0, 3, 4] (by decide) rfl
          refine lv_istore (lv' := [(10, .int r143), (0, .ref h0), (1, .int x1), (2, .int x2), (3, .int x3), (4, .int x4), (5, .int x5), (6, .int x6), (7, .int x7), (8, .int x8), (9, .int x9)]) hx hb px_d84_146 hl (by decide) rfl (fun ls hl => ?_)
          refine lv_iload hx hb px_d84_148 (lv_at hl 9 rfl) ?_
          refine lv_iconst (v := 2) hx hb px_d84_150 (by decide) ?_
          refine lv_irem hx hb px_d84_151 (by decide +kernel) ?_
          refine lv_if_ne (tgt := 160) hx hb px_d84_152 (by decide) (fun c152 => ?_) (fun c152 => ?_)
          · have hw := hw.1 c152
            refine lv_iload hx hb px_d84_160 (lv_at hl 0 rfl) ?_
            refine lv_ineg hx hb px_d84_162 ?_
            exact S163 x1 x2 x3 x4 x5 x6 x7 x8 x9 r143 (-r143) v3 v4 g_rankOf v5 v6 H locs ls hP hD hS (lv_sub hl [1, 2, 3, 4, 5, 6, 7, 8, 9, 10, 0] rfl) hw
          · have hw := hw.2 c152
            refine lv_iload hx hb px_d84_155 (lv_at hl 0 rfl) ?_
            refine lv_goto (tgt := 163) hx hb px_d84_157 (by decide) ?_
            exact S163 x1 x2 x3 x4 x5 x6 x7 x8 x9 r143 r143 v3 v4 g_rankOf v5 v6 H locs ls hP hD hS (lv_sub hl [1, 2, 3, 4, 5, 6, 7, 8, 9, 10, 0] rfl) hw
        · have hw := hw.2 c127
          refine lv_goto (tgt := 203) hx hb px_d84_130 (by decide) ?_
          exact S203 x1 x2 x3 x4 x5 x6 x7 x8 x9 iv g_elements g_rankOf g_signOf g_sorted H locs ls hP hD hS (lv_sub hl [0, 1, 2, 3, 4, 5, 6, 7, 8, 9] rfl) hw
  have S29 : ∀ (k29 : Nat) (x1 : Int32) (x2 : Int32) (x3 : Int32) (x4 : Int32) (x5 : Int32) (x6 : Int32) (iv : Nat → Int32) (g_elements : Nat → Int32) (g_rankOf : Nat → Int32) (g_signOf : Nat → Int32) (g_sorted : Nat → Int32) (H : Heap) (locs : List Loc) (ls : Array Slot), va_P (dC, dI) vwCl [(h0, .inr (8, px_mf rf iv)), (rf 19, .inl (c_elements, 26, .inl g_elements)), (rf 25, .inl (c_rankOf, 106496, .inl g_rankOf)), (rf 26, .inl (c_signOf, 106496, .inl g_signOf)), (rf 31, .inl (c_sorted, 13, .inl g_sorted))] H → va_D A [(h0, .inr (8, px_mf rf iv)), (rf 19, .inl (c_elements, 26, .inl g_elements)), (rf 25, .inl (c_rankOf, 106496, .inl g_rankOf)), (rf 26, .inl (c_signOf, 106496, .inl g_signOf)), (rf 31, .inl (c_sorted, 13, .inl g_sorted))] → va_S A s.heap H locs → lv_has ls 11 [(0, .ref h0), (1, .int x1), (2, .int x2), (3, .int x3), (4, .int x4), (5, .int x5), (6, .int x6)] → w84_L29 post k29 x1 x2 x3 x4 x5 x6 iv g_elements g_rankOf g_signOf g_sorted → W p l e (headSpec px_s84 ({ frames := 2, cells := 0, slots := 0, locals := 50 })).room s m ([.ref h0, .int a1x, .int a2x]).toArray below meth c H locs 0 0 Q (F0 m 29 ls []) := by
    intro k29
    induction k29 with
    | zero => intro x1 x2 x3 x4 x5 x6 iv g_elements g_rankOf g_signOf g_sorted H locs ls hP hD hS hl hw; exact False.elim hw
    | succ k29 ih29 =>
      have S90 : ∀ (x1 : Int32) (x2 : Int32) (x3 : Int32) (x4 : Int32) (x5 : Int32) (x6 : Int32) (x7 : Int32) (y0 : Int32) (iv : Nat → Int32) (g_elements : Nat → Int32) (g_rankOf : Nat → Int32) (g_signOf : Nat → Int32) (g_sorted : Nat → Int32) (H : Heap) (locs : List Loc) (ls : Array Slot), va_P (dC, dI) vwCl [(h0, .inr (8, px_mf rf iv)), (rf 19, .inl (c_elements, 26, .inl g_elements)), (rf 25, .inl (c_rankOf, 106496, .inl g_rankOf)), (rf 26, .inl (c_signOf, 106496, .inl g_signOf)), (rf 31, .inl (c_sorted, 13, .inl g_sorted))] H → va_D A [(h0, .inr (8, px_mf rf iv)), (rf 19, .inl (c_elements, 26, .inl g_elements)), (rf 25, .inl (c_rankOf, 106496, .inl g_rankOf)), (rf 26, .inl (c_signOf, 106496, .inl g_signOf)), (rf 31, .inl (c_sorted, 13, .inl g_sorted))] → va_S A s.heap H locs → lv_has ls 11 [(0, .ref h0), (1, .int x1), (2, .int x2), (3, .int x3), (4, .int x4), (5, .int x5), (6, .int x6), (7, .int x7)] → w84_L90 (w84_L29 post k29) post x1 x2 x3 x4 x5 x6 x7 y0 iv g_elements g_rankOf g_signOf g_sorted → W p l e (headSpec px_s84 ({ frames := 2, cells := 0, slots := 0, locals := 50 })).room s m ([.ref h0, .int a1x, .int a2x]).toArray below meth c H locs 0 0 Q (F0 m 90 ls [.int y0]) := by
        intro x1 x2 x3 x4 x5 x6 x7 y0 iv g_elements g_rankOf g_signOf g_sorted H locs ls hP hD hS hl hw
        unfold w84_L90 at hw
        refine lv_istore (lv' := [(4, .int y0), (0, .ref h0), (1, .int x1), (2, .int x2), (3, .int x3), (5, .int x5), (6, .int x6), (7, .int x7)]) hx hb px_d84_90 hl (by decide) rfl (fun ls hl => ?_)
        obtain ⟨z7, ez7⟩ : ∃ y : Int32, y = x6 + 1 := ⟨_, rfl⟩
        have hw := hw z7 ez7
        refine lv_iinc (v := z7) (lv' := [(6, .int z7), (4, .int y0), (0, .ref h0), (1, .int x1), (2, .int x2), (3, .int x3), (5, .int x5), (7, .int x7)]) hx hb px_d84_92 hl (k := 6) rfl (by rw [ez7]; rfl) (by decide) rfl (fun ls hl => ?_)
        refine lv_goto (tgt := 29) hx hb px_d84_95 (by decide) ?_
        exact ih29 x1 x2 x3 y0 x5 z7 iv g_elements g_rankOf g_signOf g_sorted H locs ls hP hD hS (lv_sub hl [2, 3, 4, 5, 1, 6, 0] rfl) hw
      have S88 : ∀ (x1 : Int32) (x2 : Int32) (x3 : Int32) (x4 : Int32) (x5 : Int32) (x6 : Int32) (x7 : Int32) (iv : Nat → Int32) (g_elements : Nat → Int32) (g_rankOf : Nat → Int32) (g_signOf : Nat → Int32) (g_sorted : Nat → Int32) (H : Heap) (locs : List Loc) (ls : Array Slot), va_P (dC, dI) vwCl [(h0, .inr (8, px_mf rf iv)), (rf 19, .inl (c_elements, 26, .inl g_elements)), (rf 25, .inl (c_rankOf, 106496, .inl g_rankOf)), (rf 26, .inl (c_signOf, 106496, .inl g_signOf)), (rf 31, .inl (c_sorted, 13, .inl g_sorted))] H → va_D A [(h0, .inr (8, px_mf rf iv)), (rf 19, .inl (c_elements, 26, .inl g_elements)), (rf 25, .inl (c_rankOf, 106496, .inl g_rankOf)), (rf 26, .inl (c_signOf, 106496, .inl g_signOf)), (rf 31, .inl (c_sorted, 13, .inl g_sorted))] → va_S A s.heap H locs → lv_has ls 11 [(0, .ref h0), (1, .int x1), (2, .int x2), (3, .int x3), (4, .int x4), (5, .int x5), (6, .int x6), (7, .int x7)] → w84_L88 (w84_L29 post k29) post x1 x2 x3 x4 x5 x6 x7 iv g_elements g_rankOf g_signOf g_sorted → W p l e (headSpec px_s84 ({ frames := 2, cells := 0, slots := 0, locals := 50 })).room s m ([.ref h0, .int a1x, .int a2x]).toArray below meth c H locs 0 0 Q (F0 m 88 ls []) := by
        intro x1 x2 x3 x4 x5 x6 x7 iv g_elements g_rankOf g_signOf g_sorted H locs ls hP hD hS hl hw
        unfold w84_L88 at hw
        refine lv_iload hx hb px_d84_88 (lv_at hl 4 rfl) ?_
        exact S90 x1 x2 x3 x4 x5 x6 x7 x4 iv g_elements g_rankOf g_signOf g_sorted H locs ls hP hD hS (lv_sub hl [0, 1, 2, 3, 4, 5, 6, 7] rfl) hw
      intro x1 x2 x3 x4 x5 x6 iv g_elements g_rankOf g_signOf g_sorted H locs ls hP hD hS hl hw
      unfold w84_L29 at hw
      refine lv_iload hx hb px_d84_29 (lv_at hl 6 rfl) ?_
      refine lv_aload_n hx hb px_d84_31 rfl (lv_at hl 0 rfl) ?_
      refine va_get (D := (dC, dI)) (ci := 8) (v := .ref (rf 19)) (C := "MatroidDeskModel") (T := px_T8) (N := 53) hx hb htw px_in8 hown hK hP 0 rfl rfl 19 (by decide) (htw _ px_w502) (fun _ h9 => h9) rfl px_d84_32 ?_
      refine lv_iload_n hx hb px_d84_35 rfl (lv_at hl 1 rfl) ?_
      obtain ⟨hi36, hw⟩ := hw
      refine va_iald hx hb hK hP 1 0 rfl rfl hi36 px_d84_36 ?_
      refine lv_icmp_ge (tgt := 98) hx hb px_d84_37 (by decide) (fun c37 => ?_) (fun c37 => ?_)
      · have hw := hw.1 c37
        refine lv_iconst (v := 0) hx hb px_d84_98 (by decide) ?_
        refine lv_istore (lv' := [(6, .int 0), (0, .ref h0), (1, .int x1), (2, .int x2), (3, .int x3), (4, .int x4), (5, .int x5)]) hx hb px_d84_99 hl (by decide) rfl (fun ls hl => ?_)
        refine lv_iconst (v := 0) hx hb px_d84_101 (by decide) ?_
        refine lv_istore (lv' := [(7, .int 0), (6, .int 0), (0, .ref h0), (1, .int x1), (2, .int x2), (3, .int x3), (4, .int x4), (5, .int x5)]) hx hb px_d84_102 hl (by decide) rfl (fun ls hl => ?_)
        refine lv_iconst (v := 0) hx hb px_d84_104 (by decide) ?_
        refine lv_istore (lv' := [(8, .int 0), (7, .int 0), (6, .int 0), (0, .ref h0), (1, .int x1), (2, .int x2), (3, .int x3), (4, .int x4), (5, .int x5)]) hx hb px_d84_105 hl (by decide) rfl (fun ls hl => ?_)
        refine lv_iconst (v := 0) hx hb px_d84_107 (by decide) ?_
        refine lv_istore (lv' := [(9, .int 0), (8, .int 0), (7, .int 0), (6, .int 0), (0, .ref h0), (1, .int x1), (2, .int x2), (3, .int x3), (4, .int x4), (5, .int x5)]) hx hb px_d84_108 hl (by decide) rfl (fun ls hl => ?_)
        obtain ⟨k9, hw⟩ := hw
        exact S110 k9 x1 x2 x3 x4 x5 0 0 0 0 iv g_elements g_rankOf g_signOf g_sorted H locs ls hP hD hS (lv_sub hl [4, 5, 6, 7, 8, 9, 3, 2, 1, 0] rfl) hw
      · have hw := hw.2 c37
        refine lv_iload hx hb px_d84_40 (lv_at hl 5 rfl) ?_
        refine lv_iload hx hb px_d84_42 (lv_at hl 4 rfl) ?_
        refine lv_ior hx hb px_d84_44 ?_
        refine lv_topi (fun z8 ez8 => ?_)
        have hw := hw z8 ez8
        refine lv_istore (lv' := [(7, .int z8), (0, .ref h0), (1, .int x1), (2, .int x2), (3, .int x3), (4, .int x4), (5, .int x5), (6, .int x6)]) hx hb px_d84_45 hl (by decide) rfl (fun ls hl => ?_)
        refine lv_iload_n hx hb px_d84_47 rfl (lv_at hl 3 rfl) ?_
        refine lv_iload hx hb px_d84_48 (lv_at hl 7 rfl) ?_
        refine lv_ishr hx hb px_d84_50 ?_
        refine lv_iconst (v := 1) hx hb px_d84_51 (by decide) ?_
        refine lv_iand hx hb px_d84_52 ?_
        refine lv_if_ne (tgt := 88) hx hb px_d84_53 (by decide) (fun c53 => ?_) (fun c53 => ?_)
        · have hw := hw.1 c53
          exact S88 x1 x2 x3 x4 x5 x6 z8 iv g_elements g_rankOf g_signOf g_sorted H locs ls hP hD hS (lv_sub hl [1, 2, 3, 4, 5, 6, 7, 0] rfl) hw
        · have hw := hw.2 c53
          refine lv_aload_n hx hb px_d84_56 rfl (lv_at hl 1 rfl) ?_
          refine lv_iload_n hx hb px_d84_57 rfl (lv_at hl 2 rfl) ?_
          refine lv_iload hx hb px_d84_58 (lv_at hl 0 rfl) ?_
          refine lv_iconst (v := 1) hx hb px_d84_60 (by decide) ?_
          refine lv_iload hx hb px_d84_61 (lv_at hl 7 rfl) ?_
          refine lv_ishl hx hb px_d84_63 ?_
          refine lv_ior hx hb px_d84_64 ?_
          have hPc := hP.sub (ws' := [(h0, .inr (8, px_mf rf iv)), (rf 25, .inl (c_rankOf, 106496, .inl g_rankOf))]) [0, 2] rfl
          have hDc := hD.sub (ws' := [(h0, .inr (8, px_mf rf iv)), (rf 25, .inl (c_rankOf, 106496, .inl g_rankOf))]) [0, 2] (by decide) rfl
          have hKc := hK.sub (tys' := [(c_rankOf, .byte)]) [1] rfl
          have hFc := va_free (wc := [(h0, .inr (8, px_mf rf iv)), (rf 25, .inl (c_rankOf, 106496, .inl g_rankOf))]) hD hS hA [0, 2] rfl
          refine va_calli (va_runV (As := [.int x1, .int (z8 ||| (1 <<< (x6 &&& 31)))]) (rest := []) ⟨hx, hb, hml, hown, htw⟩ (w70_met l dC dI H.size h0 rf c_rankOf x1 (z8 ||| (1 <<< (x6 &&& 31))) iv g_rankOf _ hw) (cwV 2 htw (px_gv px_w561 px_w553 px_w554 px_w94 px_g70) rfl rfl rfl (by decide +kernel) ⟨Nat.le_of_ble_eq_true rfl, Nat.le_of_ble_eq_true rfl⟩) ⟨fun a U g mk q => by obtain ⟨q0, q1, qP, qK, qD, qN⟩ := q; exact ⟨q0, q1, qP, va_K.moved (u := U) (U := U.calling g mk a) (Vm.Alike.refl U.vm) qK, qD, qN.same rfl⟩, va_recv hK hP (ci := 8) (q0 := 0) rfl rfl, fun U hU hW => ⟨rfl, by rw [hU], by rw [hU]; exact hPc, va_K.moved hW.alike hKc, hDc.weaken (fun _ _ _ _ => trivial), hN.warm hW⟩⟩ rfl rfl hl.1 rfl (lv_room (Nat.le_of_ble_eq_true rfl)) px_d84_65 ⟨(Nat.le_of_ble_eq_true rfl), (Nat.le_of_ble_eq_true rfl)⟩) hS (fun q _ h => hFc q h) hFc (fun r65 u t H1 locs ht hvm hw hB hz1 hk1 hS => ?_)
          obtain ⟨v9, v10⟩ := u
          obtain ⟨hP1, hK1, hD1⟩ := hB
          rw [ht] at hP1
          have hK1 := va_K.moved hvm.symm hK1
          obtain ⟨hP, hD⟩ := va_join (wr := [(rf 19, .inl (c_elements, 26, .inl g_elements)), (rf 26, .inl (c_signOf, 106496, .inl g_signOf)), (rf 31, .inl (c_sorted, 13, .inl g_sorted))]) (w1 := [(h0, .inr (8, px_mf rf v9)), (rf 25, .inl (c_rankOf, 106496, .inl v10))]) hP hD [0, 2] [1, 3, 4] rfl rfl (by decide) (by decide) hk1 hFc hP1 hD1
          generalize H1 = H at hP hS ⊢
          have hP : va_P (dC, dI) vwCl [(rf 19, .inl (c_elements, 26, .inl g_elements)), (rf 26, .inl (c_signOf, 106496, .inl g_signOf)), (rf 31, .inl (c_sorted, 13, .inl g_sorted)), (h0, .inr (8, px_mf rf v9)), (rf 25, .inl (c_rankOf, 106496, .inl v10))] H := hP
          have hD : va_D A [(rf 19, .inl (c_elements, 26, .inl g_elements)), (rf 26, .inl (c_signOf, 106496, .inl g_signOf)), (rf 31, .inl (c_sorted, 13, .inl g_sorted)), (h0, .inr (8, px_mf rf v9)), (rf 25, .inl (c_rankOf, 106496, .inl v10))] := hD
          have hP := hP.sub (ws' := [(h0, .inr (8, px_mf rf v9)), (rf 19, .inl (c_elements, 26, .inl g_elements)), (rf 25, .inl (c_rankOf, 106496, .inl v10)), (rf 26, .inl (c_signOf, 106496, .inl g_signOf)), (rf 31, .inl (c_sorted, 13, .inl g_sorted))]) [3, 0, 4, 1, 2] rfl
          have hD := hD.sub (ws' := [(h0, .inr (8, px_mf rf v9)), (rf 19, .inl (c_elements, 26, .inl g_elements)), (rf 25, .inl (c_rankOf, 106496, .inl v10)), (rf 26, .inl (c_signOf, 106496, .inl g_signOf)), (rf 31, .inl (c_sorted, 13, .inl g_sorted))]) [3, 0, 4, 1, 2] (by decide) rfl
          refine lv_aload_n hx hb px_d84_68 rfl (lv_at hl 1 rfl) ?_
          refine lv_iload_n hx hb px_d84_69 rfl (lv_at hl 2 rfl) ?_
          refine lv_iload hx hb px_d84_70 (lv_at hl 0 rfl) ?_
          have hPc := hP.sub (ws' := [(h0, .inr (8, px_mf rf v9)), (rf 25, .inl (c_rankOf, 106496, .inl v10))]) [0, 2] rfl
          have hDc := hD.sub (ws' := [(h0, .inr (8, px_mf rf v9)), (rf 25, .inl (c_rankOf, 106496, .inl v10))]) [0, 2] (by decide) rfl
          have hKc := hK.sub (tys' := [(c_rankOf, .byte)]) [1] rfl
          have hFc := va_free (wc := [(h0, .inr (8, px_mf rf v9)), (rf 25, .inl (c_rankOf, 106496, .inl v10))]) hD hS hA [0, 2] rfl
          refine va_calli (va_runV (As := [.int x1, .int z8]) (rest := [.int r65]) ⟨hx, hb, hml, hown, htw⟩ (w70_met l dC dI H.size h0 rf c_rankOf x1 z8 v9 v10 _ hw) (cwV 2 htw (px_gv px_w561 px_w553 px_w554 px_w94 px_g70) rfl rfl rfl (by decide +kernel) ⟨Nat.le_of_ble_eq_true rfl, Nat.le_of_ble_eq_true rfl⟩) ⟨fun a U g mk q => by obtain ⟨q0, q1, qP, qK, qD, qN⟩ := q; exact ⟨q0, q1, qP, va_K.moved (u := U) (U := U.calling g mk a) (Vm.Alike.refl U.vm) qK, qD, qN.same rfl⟩, va_recv hK hP (ci := 8) (q0 := 0) rfl rfl, fun U hU hW => ⟨rfl, by rw [hU], by rw [hU]; exact hPc, va_K.moved hW.alike hKc, hDc.weaken (fun _ _ _ _ => trivial), hN.warm hW⟩⟩ rfl rfl hl.1 rfl (lv_room (Nat.le_of_ble_eq_true rfl)) px_d84_72 ⟨(Nat.le_of_ble_eq_true rfl), (Nat.le_of_ble_eq_true rfl)⟩) hS (fun q _ h => hFc q h) hFc (fun r72 u t H1 locs ht hvm hw hB hz1 hk1 hS => ?_)
          obtain ⟨v11, v12⟩ := u
          obtain ⟨hP1, hK1, hD1⟩ := hB
          rw [ht] at hP1
          have hK1 := va_K.moved hvm.symm hK1
          obtain ⟨hP, hD⟩ := va_join (wr := [(rf 19, .inl (c_elements, 26, .inl g_elements)), (rf 26, .inl (c_signOf, 106496, .inl g_signOf)), (rf 31, .inl (c_sorted, 13, .inl g_sorted))]) (w1 := [(h0, .inr (8, px_mf rf v11)), (rf 25, .inl (c_rankOf, 106496, .inl v12))]) hP hD [0, 2] [1, 3, 4] rfl rfl (by decide) (by decide) hk1 hFc hP1 hD1
          generalize H1 = H at hP hS ⊢
          have hP : va_P (dC, dI) vwCl [(rf 19, .inl (c_elements, 26, .inl g_elements)), (rf 26, .inl (c_signOf, 106496, .inl g_signOf)), (rf 31, .inl (c_sorted, 13, .inl g_sorted)), (h0, .inr (8, px_mf rf v11)), (rf 25, .inl (c_rankOf, 106496, .inl v12))] H := hP
          have hD : va_D A [(rf 19, .inl (c_elements, 26, .inl g_elements)), (rf 26, .inl (c_signOf, 106496, .inl g_signOf)), (rf 31, .inl (c_sorted, 13, .inl g_sorted)), (h0, .inr (8, px_mf rf v11)), (rf 25, .inl (c_rankOf, 106496, .inl v12))] := hD
          have hP := hP.sub (ws' := [(h0, .inr (8, px_mf rf v11)), (rf 19, .inl (c_elements, 26, .inl g_elements)), (rf 25, .inl (c_rankOf, 106496, .inl v12)), (rf 26, .inl (c_signOf, 106496, .inl g_signOf)), (rf 31, .inl (c_sorted, 13, .inl g_sorted))]) [3, 0, 4, 1, 2] rfl
          have hD := hD.sub (ws' := [(h0, .inr (8, px_mf rf v11)), (rf 19, .inl (c_elements, 26, .inl g_elements)), (rf 25, .inl (c_rankOf, 106496, .inl v12)), (rf 26, .inl (c_signOf, 106496, .inl g_signOf)), (rf 31, .inl (c_sorted, 13, .inl g_sorted))]) [3, 0, 4, 1, 2] (by decide) rfl
          refine lv_icmp_le (tgt := 88) hx hb px_d84_75 (by decide) (fun c75 => ?_) (fun c75 => ?_)
          · have hw := hw.1 c75
            exact S88 x1 x2 x3 x4 x5 x6 z8 v11 g_elements v12 g_signOf g_sorted H locs ls hP hD hS (lv_sub hl [1, 2, 3, 4, 5, 6, 7, 0] rfl) hw
          · have hw := hw.2 c75
            refine lv_iload hx hb px_d84_78 (lv_at hl 5 rfl) ?_
            refine lv_iconst (v := 1) hx hb px_d84_80 (by decide) ?_
            refine lv_iload hx hb px_d84_81 (lv_at hl 7 rfl) ?_
            refine lv_ishl hx hb px_d84_83 ?_
            refine lv_ior hx hb px_d84_84 ?_
            refine lv_goto (tgt := 90) hx hb px_d84_85 (by decide) ?_
            exact S90 x1 x2 x3 x4 x5 x6 z8 (x4 ||| (1 <<< (x6 &&& 31))) v11 g_elements v12 g_signOf g_sorted H locs ls hP hD hS (lv_sub hl [1, 2, 3, 4, 5, 6, 7, 0] rfl) hw
  have S2 : ∀ (k2 : Nat) (x1 : Int32) (x2 : Int32) (x3 : Int32) (iv : Nat → Int32) (g_elements : Nat → Int32) (g_rankOf : Nat → Int32) (g_signOf : Nat → Int32) (g_sorted : Nat → Int32) (H : Heap) (locs : List Loc) (ls : Array Slot), va_P (dC, dI) vwCl [(h0, .inr (8, px_mf rf iv)), (rf 19, .inl (c_elements, 26, .inl g_elements)), (rf 25, .inl (c_rankOf, 106496, .inl g_rankOf)), (rf 26, .inl (c_signOf, 106496, .inl g_signOf)), (rf 31, .inl (c_sorted, 13, .inl g_sorted))] H → va_D A [(h0, .inr (8, px_mf rf iv)), (rf 19, .inl (c_elements, 26, .inl g_elements)), (rf 25, .inl (c_rankOf, 106496, .inl g_rankOf)), (rf 26, .inl (c_signOf, 106496, .inl g_signOf)), (rf 31, .inl (c_sorted, 13, .inl g_sorted))] → va_S A s.heap H locs → lv_has ls 11 [(0, .ref h0), (1, .int x1), (2, .int x2), (3, .int x3)] → w84_L2 post k2 x1 x2 x3 iv g_elements g_rankOf g_signOf g_sorted → W p l e (headSpec px_s84 ({ frames := 2, cells := 0, slots := 0, locals := 50 })).room s m ([.ref h0, .int a1x, .int a2x]).toArray below meth c H locs 0 0 Q (F0 m 2 ls []) := by
    intro k2
    induction k2 with
    | zero => intro x1 x2 x3 iv g_elements g_rankOf g_signOf g_sorted H locs ls hP hD hS hl hw; exact False.elim hw
    | succ k2 ih2 =>
      intro x1 x2 x3 iv g_elements g_rankOf g_signOf g_sorted H locs ls hP hD hS hl hw
      unfold w84_L2 at hw
      refine lv_iload_n hx hb px_d84_2 rfl (lv_at hl 2 rfl) ?_
      refine lv_iload_n hx hb px_d84_3 rfl (lv_at hl 3 rfl) ?_
      refine lv_ishr hx hb px_d84_4 ?_
      refine lv_iconst (v := 1) hx hb px_d84_5 (by decide) ?_
      refine lv_iand hx hb px_d84_6 ?_
      refine lv_if_ne (tgt := 16) hx hb px_d84_7 (by decide) (fun c7 => ?_) (fun c7 => ?_)
      · have hw := hw.1 c7
        refine lv_iconst (v := 0) hx hb px_d84_16 (by decide) ?_
        refine lv_istore (lv' := [(4, .int 0), (0, .ref h0), (1, .int x1), (2, .int x2), (3, .int x3)]) hx hb px_d84_17 hl (by decide) rfl (fun ls hl => ?_)
        refine lv_iload_n hx hb px_d84_19 rfl (lv_at hl 3 rfl) ?_
        refine lv_iconst (v := 1) hx hb px_d84_20 (by decide) ?_
        refine lv_iload_n hx hb px_d84_21 rfl (lv_at hl 4 rfl) ?_
        refine lv_ishl hx hb px_d84_22 ?_
        refine lv_ixor hx hb px_d84_23 ?_
        refine lv_topi (fun z13 ez13 => ?_)
        have hw := hw z13 ez13
        refine lv_istore (lv' := [(5, .int z13), (4, .int 0), (0, .ref h0), (1, .int x1), (2, .int x2), (3, .int x3)]) hx hb px_d84_24 hl (by decide) rfl (fun ls hl => ?_)
        refine lv_iconst (v := 0) hx hb px_d84_26 (by decide) ?_
        refine lv_istore (lv' := [(6, .int 0), (5, .int z13), (4, .int 0), (0, .ref h0), (1, .int x1), (2, .int x2), (3, .int x3)]) hx hb px_d84_27 hl (by decide) rfl (fun ls hl => ?_)
        obtain ⟨k9, hw⟩ := hw
        exact S29 k9 x1 x2 x3 0 z13 0 iv g_elements g_rankOf g_signOf g_sorted H locs ls hP hD hS (lv_sub hl [3, 4, 5, 6, 2, 1, 0] rfl) hw
      · have hw := hw.2 c7
        obtain ⟨z14, ez14⟩ : ∃ y : Int32, y = x3 + 1 := ⟨_, rfl⟩
        have hw := hw z14 ez14
        refine lv_iinc (v := z14) (lv' := [(3, .int z14), (0, .ref h0), (1, .int x1), (2, .int x2)]) hx hb px_d84_10 hl (k := 3) rfl (by rw [ez14]; rfl) (by decide) rfl (fun ls hl => ?_)
        refine lv_goto (tgt := 2) hx hb px_d84_13 (by decide) ?_
        exact ih2 x1 x2 z14 iv g_elements g_rankOf g_signOf g_sorted H locs ls hP hD hS (lv_sub hl [1, 2, 3, 0] rfl) hw
  unfold w84_wp at hw
  have hS0 := hS
  obtain ⟨H, hH9⟩ : ∃ z, z = s.heap := ⟨_, rfl⟩
  have hP : va_P (dC, dI) vwCl [(h0, .inr (8, px_mf rf iv)), (rf 19, .inl (c_elements, 26, .inl g_elements)), (rf 25, .inl (c_rankOf, 106496, .inl g_rankOf)), (rf 26, .inl (c_signOf, 106496, .inl g_signOf)), (rf 31, .inl (c_sorted, 13, .inl g_sorted))] H := by rw [hH9]; exact hP
  obtain ⟨locs, hlo9⟩ : ∃ z : List Loc, z = [] := ⟨_, rfl⟩
  have hS : va_S A s.heap H locs := by rw [hH9, hlo9]; exact hS
  suffices hG : W p l e (headSpec px_s84 ({ frames := 2, cells := 0, slots := 0, locals := 50 })).room s m ([.ref h0, .int a1x, .int a2x]).toArray below meth c H locs 0 0 Q (F0 m 0 ls []) by rw [hH9, hlo9] at hG; exact hG
  refine lv_iconst (v := 0) hx hb px_d84_0 (by decide) ?_
  refine lv_istore_n (lv' := [(3, .int 0), (0, .ref h0), (1, .int a1x), (2, .int a2x)]) hx hb px_d84_1 rfl hl (by decide) rfl (fun ls hl => ?_)
  obtain ⟨k9, hw⟩ := hw
  exact S2 k9 a1x a2x 0 iv g_elements g_rankOf g_signOf g_sorted H locs ls hP hD hS (lv_sub hl [1, 2, 3, 0] rfl) hw

/-! MatroidDeskModel.putSigns(I)V -/
def w114_L108 (K2 : Int32 → Int32 → (Nat → Int32) → (Nat → Int32) → (Nat → Int32) → (Nat → Int32) → (Nat → Int32) → (Nat → Int32) → (Nat → Int32) → (Nat → Int32) → (Nat → Int32) → Prop) (post : (Nat → Int32) → (Nat → Int32) → (Nat → Int32) → (Nat → Int32) → (Nat → Int32) → (Nat → Int32) → (Nat → Int32) → (Nat → Int32) → (Nat → Int32) → Prop) (x1 : Int32) (x2 : Int32) (x3 : Int32) (iv : Nat → Int32) (g_elements : Nat → Int32) (g_ranks : Nat → Int32) (g_rankOf : Nat → Int32) (g_signOf : Nat → Int32) (g_order : Nat → Int32) (g_sizes : Nat → Int32) (g_sorted : Nat → Int32) (g_sheet : Nat → Int32) : Prop := ∀ z1 : Int32, z1 = x2 + 1 → K2 x1 z1 iv g_elements g_ranks g_rankOf g_signOf g_order g_sizes g_sorted g_sheet
def w114_L93 (K2 : Int32 → Int32 → (Nat → Int32) → (Nat → Int32) → (Nat → Int32) → (Nat → Int32) → (Nat → Int32) → (Nat → Int32) → (Nat → Int32) → (Nat → Int32) → (Nat → Int32) → Prop) (K49 : Int32 → Int32 → Int32 → Int32 → Int32 → (Nat → Int32) → (Nat → Int32) → (Nat → Int32) → (Nat → Int32) → (Nat → Int32) → (Nat → Int32) → (Nat → Int32) → (Nat → Int32) → (Nat → Int32) → Prop) (post : (Nat → Int32) → (Nat → Int32) → (Nat → Int32) → (Nat → Int32) → (Nat → Int32) → (Nat → Int32) → (Nat → Int32) → (Nat → Int32) → (Nat → Int32) → Prop) (x1 : Int32) (x2 : Int32) (x3 : Int32) (x4 : Int32) (x5 : Int32) (y0 : Int32) (iv : Nat → Int32) (g_elements : Nat → Int32) (g_ranks : Nat → Int32) (g_rankOf : Nat → Int32) (g_signOf : Nat → Int32) (g_order : Nat → Int32) (g_sizes : Nat → Int32) (g_sorted : Nat → Int32) (g_sheet : Nat → Int32) : Prop := mpu_wp (fun v2 v3 => ∀ z4 : Int32, z4 = x5 + 1 → K49 x1 x2 x3 x4 z4 v2 g_elements g_ranks g_rankOf g_signOf g_order g_sizes g_sorted v3) y0 iv g_sheet
def w114_L49 (K2 : Int32 → Int32 → (Nat → Int32) → (Nat → Int32) → (Nat → Int32) → (Nat → Int32) → (Nat → Int32) → (Nat → Int32) → (Nat → Int32) → (Nat → Int32) → (Nat → Int32) → Prop) (post : (Nat → Int32) → (Nat → Int32) → (Nat → Int32) → (Nat → Int32) → (Nat → Int32) → (Nat → Int32) → (Nat → Int32) → (Nat → Int32) → (Nat → Int32) → Prop) : Nat → Int32 → Int32 → Int32 → Int32 → Int32 → (Nat → Int32) → (Nat → Int32) → (Nat → Int32) → (Nat → Int32) → (Nat → Int32) → (Nat → Int32) → (Nat → Int32) → (Nat → Int32) → (Nat → Int32) → Prop
  | 0 => fun _ _ _ _ _ _ _ _ _ _ _ _ _ _ => False
  | k + 1 => fun x1 x2 x3 x4 x5 iv g_elements g_ranks g_rankOf g_signOf g_order g_sizes g_sorted g_sheet => vp_in x1 26 ∧ (((g_elements (Int32.toNatClampNeg x1)) ≤ x5 → mpu_wp (fun v5 v6 => w114_L108 K2 post x1 x2 x3 v5 g_elements g_ranks g_rankOf g_signOf g_order g_sizes g_sorted v6) 10 iv g_sheet) ∧ (¬ (g_elements (Int32.toNatClampNeg x1)) ≤ x5 → (¬ ((x3 >>> (x5 &&& 31)) &&& 1) = 0 → (¬ ((x4 >>> (x5 &&& 31)) &&& 1) = 1 → w114_L93 K2 (w114_L49 K2 post k) post x1 x2 x3 x4 x5 43 iv g_elements g_ranks g_rankOf g_signOf g_order g_sizes g_sorted g_sheet) ∧ (((x4 >>> (x5 &&& 31)) &&& 1) = 1 → w114_L93 K2 (w114_L49 K2 post k) post x1 x2 x3 x4 x5 45 iv g_elements g_ranks g_rankOf g_signOf g_order g_sizes g_sorted g_sheet)) ∧ (((x3 >>> (x5 &&& 31)) &&& 1) = 0 → w114_L93 K2 (w114_L49 K2 post k) post x1 x2 x3 x4 x5 48 iv g_elements g_ranks g_rankOf g_signOf g_order g_sizes g_sorted g_sheet)))
def w114_L2 (post : (Nat → Int32) → (Nat → Int32) → (Nat → Int32) → (Nat → Int32) → (Nat → Int32) → (Nat → Int32) → (Nat → Int32) → (Nat → Int32) → (Nat → Int32) → Prop) : Nat → Int32 → Int32 → (Nat → Int32) → (Nat → Int32) → (Nat → Int32) → (Nat → Int32) → (Nat → Int32) → (Nat → Int32) → (Nat → Int32) → (Nat → Int32) → (Nat → Int32) → Prop
  | 0 => fun _ _ _ _ _ _ _ _ _ _ _ => False
  | k + 1 => fun x1 x2 iv g_elements g_ranks g_rankOf g_signOf g_order g_sizes g_sorted g_sheet => (4096 ≤ x2 → post iv g_elements g_ranks g_rankOf g_signOf g_order g_sizes g_sorted g_sheet) ∧ (¬ 4096 ≤ x2 → vp_in x2 4096 ∧ (∀ z7 : Int32, z7 = g_order (Int32.toNatClampNeg x2) → w71_wp (fun r19 v8 v9 => (r19 < z7 → w114_L108 (w114_L2 post k) post x1 x2 z7 v8 v9 g_ranks g_rankOf g_signOf g_order g_sizes g_sorted g_sheet) ∧ (¬ r19 < z7 → w74_wp (fun r29 v10 v11 v12 v13 v14 => (¬ r29 = 0 → w84_wp (fun r41 v15 v16 v17 v18 v19 => ∃ j49, w114_L49 (w114_L2 post k) post j49 x1 x2 z7 r41 0 v15 v16 v12 v17 v18 g_order v14 v19 g_sheet) x1 z7 v10 v11 v13 g_signOf g_sorted) ∧ (r29 = 0 → w114_L108 (w114_L2 post k) post x1 x2 z7 v10 v11 v12 v13 g_signOf g_order v14 g_sorted g_sheet)) x1 z7 0 v8 v9 g_ranks g_rankOf g_sizes)) x1 iv g_elements))
def w114_wp (post : (Nat → Int32) → (Nat → Int32) → (Nat → Int32) → (Nat → Int32) → (Nat → Int32) → (Nat → Int32) → (Nat → Int32) → (Nat → Int32) → (Nat → Int32) → Prop) (a1x : Int32) (iv : Nat → Int32) (g_elements : Nat → Int32) (g_ranks : Nat → Int32) (g_rankOf : Nat → Int32) (g_signOf : Nat → Int32) (g_order : Nat → Int32) (g_sizes : Nat → Int32) (g_sorted : Nat → Int32) (g_sheet : Nat → Int32) : Prop := ∃ j2, w114_L2 post j2 a1x 0 iv g_elements g_ranks g_rankOf g_signOf g_order g_sizes g_sorted g_sheet
set_option maxHeartbeats 8000000 in
set_option maxRecDepth 100000 in
theorem w114_met (l : Launch) (dC : Nat → ClassId) (dI : Nat → Nat → Nat) (sz : Nat) (h0 : Nat) (rf : Nat → Nat) (c_elements : ClassId) (c_ranks : ClassId) (c_rankOf : ClassId) (c_signOf : ClassId) (c_order : ClassId) (c_sizes : ClassId) (c_sorted : ClassId) (c_sheet : ClassId) (a1x : Int32) (iv : Nat → Int32) (g_elements : Nat → Int32) (g_ranks : Nat → Int32) (g_rankOf : Nat → Int32) (g_signOf : Nat → Int32) (g_order : Nat → Int32) (g_sizes : Nat → Int32) (g_sorted : Nat → Int32) (g_sheet : Nat → Int32) (post : (Nat → Int32) → (Nat → Int32) → (Nat → Int32) → (Nat → Int32) → (Nat → Int32) → (Nat → Int32) → (Nat → Int32) → (Nat → Int32) → (Nat → Int32) → Prop) (hw : w114_wp post a1x iv g_elements g_ranks g_rankOf g_signOf g_order g_sizes g_sorted g_sheet) : Met l px_y114 px_s114 ({ frames := 3, cells := 0, slots := 0, locals := 80 }) (va_Pc [.ref h0, .int a1x] (fun U => U.heap.size = sz ∧ va_P (dC, dI) vwCl [(h0, .inr (8, px_mf rf iv)), (rf 19, .inl (c_elements, 26, .inl g_elements)), (rf 21, .inl (c_ranks, 26, .inl g_ranks)), (rf 25, .inl (c_rankOf, 106496, .inl g_rankOf)), (rf 26, .inl (c_signOf, 106496, .inl g_signOf)), (rf 27, .inl (c_order, 4096, .inl g_order)), (rf 28, .inl (c_sizes, 4096, .inl g_sizes)), (rf 31, .inl (c_sorted, 13, .inl g_sorted)), (rf 46, .inl (c_sheet, 65536, .inl g_sheet))] U.heap ∧ va_K (dC, dI) vwCl [(c_elements, .int), (c_ranks, .int), (c_rankOf, .byte), (c_signOf, .byte), (c_order, .int), (c_sizes, .int), (c_sorted, .int), (c_sheet, .byte)] U ∧ va_D (fun _ => True) [(h0, .inr (8, px_mf rf iv)), (rf 19, .inl (c_elements, 26, .inl g_elements)), (rf 21, .inl (c_ranks, 26, .inl g_ranks)), (rf 25, .inl (c_rankOf, 106496, .inl g_rankOf)), (rf 26, .inl (c_signOf, 106496, .inl g_signOf)), (rf 27, .inl (c_order, 4096, .inl g_order)), (rf 28, .inl (c_sizes, 4096, .inl g_sizes)), (rf 31, .inl (c_sorted, 13, .inl g_sorted)), (rf 46, .inl (c_sheet, 65536, .inl g_sheet))] ∧ px_N U)) (va_Qv (fun (u : (Nat → Int32) × (Nat → Int32) × (Nat → Int32) × (Nat → Int32) × (Nat → Int32) × (Nat → Int32) × (Nat → Int32) × (Nat → Int32) × (Nat → Int32)) => post u.1 u.2.1 u.2.2.1 u.2.2.2.1 u.2.2.2.2.1 u.2.2.2.2.2.1 u.2.2.2.2.2.2.1 u.2.2.2.2.2.2.2.1 u.2.2.2.2.2.2.2.2) (fun (u : (Nat → Int32) × (Nat → Int32) × (Nat → Int32) × (Nat → Int32) × (Nat → Int32) × (Nat → Int32) × (Nat → Int32) × (Nat → Int32) × (Nat → Int32)) (t : State) => va_P (dC, dI) vwCl [(h0, .inr (8, px_mf rf u.1)), (rf 19, .inl (c_elements, 26, .inl u.2.1)), (rf 21, .inl (c_ranks, 26, .inl u.2.2.1)), (rf 25, .inl (c_rankOf, 106496, .inl u.2.2.2.1)), (rf 26, .inl (c_signOf, 106496, .inl u.2.2.2.2.1)), (rf 27, .inl (c_order, 4096, .inl u.2.2.2.2.2.1)), (rf 28, .inl (c_sizes, 4096, .inl u.2.2.2.2.2.2.1)), (rf 31, .inl (c_sorted, 13, .inl u.2.2.2.2.2.2.2.1)), (rf 46, .inl (c_sheet, 65536, .inl u.2.2.2.2.2.2.2.2))] t.heap ∧ va_K (dC, dI) vwCl [(c_elements, .int), (c_ranks, .int), (c_rankOf, .byte), (c_signOf, .byte), (c_order, .int), (c_sizes, .int), (c_sorted, .int), (c_sheet, .byte)] t ∧ va_D (va_A [(h0, .inr (8, px_mf rf iv)), (rf 19, .inl (c_elements, 26, .inl g_elements)), (rf 21, .inl (c_ranks, 26, .inl g_ranks)), (rf 25, .inl (c_rankOf, 106496, .inl g_rankOf)), (rf 26, .inl (c_signOf, 106496, .inl g_signOf)), (rf 27, .inl (c_order, 4096, .inl g_order)), (rf 28, .inl (c_sizes, 4096, .inl g_sizes)), (rf 31, .inl (c_sorted, 13, .inl g_sorted)), (rf 46, .inl (c_sheet, 65536, .inl g_sheet))] sz) [(h0, .inr (8, px_mf rf u.1)), (rf 19, .inl (c_elements, 26, .inl u.2.1)), (rf 21, .inl (c_ranks, 26, .inl u.2.2.1)), (rf 25, .inl (c_rankOf, 106496, .inl u.2.2.2.1)), (rf 26, .inl (c_signOf, 106496, .inl u.2.2.2.2.1)), (rf 27, .inl (c_order, 4096, .inl u.2.2.2.2.2.1)), (rf 28, .inl (c_sizes, 4096, .inl u.2.2.2.2.2.2.1)), (rf 31, .inl (c_sorted, 13, .inl u.2.2.2.2.2.2.2.1)), (rf 46, .inl (c_sheet, 65536, .inl u.2.2.2.2.2.2.2.2))]) (va_A [(h0, .inr (8, px_mf rf iv)), (rf 19, .inl (c_elements, 26, .inl g_elements)), (rf 21, .inl (c_ranks, 26, .inl g_ranks)), (rf 25, .inl (c_rankOf, 106496, .inl g_rankOf)), (rf 26, .inl (c_signOf, 106496, .inl g_signOf)), (rf 27, .inl (c_order, 4096, .inl g_order)), (rf 28, .inl (c_sizes, 4096, .inl g_sizes)), (rf 31, .inl (c_sorted, 13, .inl g_sorted)), (rf 46, .inl (c_sheet, 65536, .inl g_sheet))] sz)) 0 0 (va_A [(h0, .inr (8, px_mf rf iv)), (rf 19, .inl (c_elements, 26, .inl g_elements)), (rf 21, .inl (c_ranks, 26, .inl g_ranks)), (rf 25, .inl (c_rankOf, 106496, .inl g_rankOf)), (rf 26, .inl (c_signOf, 106496, .inl g_signOf)), (rf 27, .inl (c_order, 4096, .inl g_order)), (rf 28, .inl (c_sizes, 4096, .inl g_sizes)), (rf 31, .inl (c_sorted, 13, .inl g_sorted)), (rf 46, .inl (c_sheet, 65536, .inl g_sheet))] sz) := by
  refine Met.ofW (cc := prog_15_method_85_code) (maxL := 6) (ret := none) (by decide) rfl ?_
  intro p e s m args below meth c s₁ B hml hv
  obtain ⟨rfl, hsz, hP, hK, hD0, hN⟩ := hv
  have hx := B.exec
  have hb := B.bytes
  have hr := B.returns
  have htw : ∀ w ∈ px_all, w.before _ s = true := fun w h => atoms_spec (ws := px_s114) B.pre w (List.mem_cons_of_mem _ h)
  have hown : s.vm.findClass "MatroidDeskModel" = some m.cls := findClass_of_methodNamed B.named
  have hlocks := B.notSynchronized
  subst hsz
  have hD := hD0.self (sz := s.heap.size)
  generalize hAe : va_A [(h0, .inr (8, px_mf rf iv)), (rf 19, .inl (c_elements, 26, .inl g_elements)), (rf 21, .inl (c_ranks, 26, .inl g_ranks)), (rf 25, .inl (c_rankOf, 106496, .inl g_rankOf)), (rf 26, .inl (c_signOf, 106496, .inl g_signOf)), (rf 27, .inl (c_order, 4096, .inl g_order)), (rf 28, .inl (c_sizes, 4096, .inl g_sizes)), (rf 31, .inl (c_sorted, 13, .inl g_sorted)), (rf 46, .inl (c_sheet, 65536, .inl g_sheet))] s.heap.size = A at hD ⊢
  have hA : ∀ q : Nat, s.heap.size ≤ q → A q := fun q h => by rw [← hAe]; exact Or.inr h
  have hS : va_S A s.heap s.heap [] := va_S.rf
  have hP : va_P (dC, dI) vwCl [(h0, .inr (8, px_mf rf iv)), (rf 19, .inl (c_elements, 26, .inl g_elements)), (rf 21, .inl (c_ranks, 26, .inl g_ranks)), (rf 25, .inl (c_rankOf, 106496, .inl g_rankOf)), (rf 26, .inl (c_signOf, 106496, .inl g_signOf)), (rf 27, .inl (c_order, 4096, .inl g_order)), (rf 28, .inl (c_sizes, 4096, .inl g_sizes)), (rf 31, .inl (c_sorted, 13, .inl g_sorted)), (rf 46, .inl (c_sheet, 65536, .inl g_sheet))] s.heap := hP
  have hl := lv_entry ([.ref h0, .int a1x]) (n := 6) (Nat.le_of_ble_eq_true rfl)
  rw [lg_entry_eq]
  generalize (lg_sl ([.ref h0, .int a1x]) ++ List.replicate (6 - (lg_sl ([.ref h0, .int a1x])).length) Slot.unset).toArray = ls at hl ⊢
  have hl : lv_has ls 6 [(0, .ref h0), (1, .int a1x)] := hl
  generalize hQ : MQ _ _ _ _ _ _ _ = Q
  have S2 : ∀ (k2 : Nat) (x1 : Int32) (x2 : Int32) (iv : Nat → Int32) (g_elements : Nat → Int32) (g_ranks : Nat → Int32) (g_rankOf : Nat → Int32) (g_signOf : Nat → Int32) (g_order : Nat → Int32) (g_sizes : Nat → Int32) (g_sorted : Nat → Int32) (g_sheet : Nat → Int32) (H : Heap) (locs : List Loc) (ls : Array Slot), va_P (dC, dI) vwCl [(h0, .inr (8, px_mf rf iv)), (rf 19, .inl (c_elements, 26, .inl g_elements)), (rf 21, .inl (c_ranks, 26, .inl g_ranks)), (rf 25, .inl (c_rankOf, 106496, .inl g_rankOf)), (rf 26, .inl (c_signOf, 106496, .inl g_signOf)), (rf 27, .inl (c_order, 4096, .inl g_order)), (rf 28, .inl (c_sizes, 4096, .inl g_sizes)), (rf 31, .inl (c_sorted, 13, .inl g_sorted)), (rf 46, .inl (c_sheet, 65536, .inl g_sheet))] H → va_D A [(h0, .inr (8, px_mf rf iv)), (rf 19, .inl (c_elements, 26, .inl g_elements)), (rf 21, .inl (c_ranks, 26, .inl g_ranks)), (rf 25, .inl (c_rankOf, 106496, .inl g_rankOf)), (rf 26, .inl (c_signOf, 106496, .inl g_signOf)), (rf 27, .inl (c_order, 4096, .inl g_order)), (rf 28, .inl (c_sizes, 4096, .inl g_sizes)), (rf 31, .inl (c_sorted, 13, .inl g_sorted)), (rf 46, .inl (c_sheet, 65536, .inl g_sheet))] → va_S A s.heap H locs → lv_has ls 6 [(0, .ref h0), (1, .int x1), (2, .int x2)] → w114_L2 post k2 x1 x2 iv g_elements g_ranks g_rankOf g_signOf g_order g_sizes g_sorted g_sheet → W p l e (headSpec px_s114 ({ frames := 3, cells := 0, slots := 0, locals := 80 })).room s m ([.ref h0, .int a1x]).toArray below meth c H locs 0 0 Q (F0 m 2 ls []) := by
    intro k2
    induction k2 with
    | zero => intro x1 x2 iv g_elements g_ranks g_rankOf g_signOf g_order g_sizes g_sorted g_sheet H locs ls hP hD hS hl hw; exact False.elim hw
    | succ k2 ih2 =>
      have S108 : ∀ (x1 : Int32) (x2 : Int32) (x3 : Int32) (iv : Nat → Int32) (g_elements : Nat → Int32) (g_ranks : Nat → Int32) (g_rankOf : Nat → Int32) (g_signOf : Nat → Int32) (g_order : Nat → Int32) (g_sizes : Nat → Int32) (g_sorted : Nat → Int32) (g_sheet : Nat → Int32) (H : Heap) (locs : List Loc) (ls : Array Slot), va_P (dC, dI) vwCl [(h0, .inr (8, px_mf rf iv)), (rf 19, .inl (c_elements, 26, .inl g_elements)), (rf 21, .inl (c_ranks, 26, .inl g_ranks)), (rf 25, .inl (c_rankOf, 106496, .inl g_rankOf)), (rf 26, .inl (c_signOf, 106496, .inl g_signOf)), (rf 27, .inl (c_order, 4096, .inl g_order)), (rf 28, .inl (c_sizes, 4096, .inl g_sizes)), (rf 31, .inl (c_sorted, 13, .inl g_sorted)), (rf 46, .inl (c_sheet, 65536, .inl g_sheet))] H → va_D A [(h0, .inr (8, px_mf rf iv)), (rf 19, .inl (c_elements, 26, .inl g_elements)), (rf 21, .inl (c_ranks, 26, .inl g_ranks)), (rf 25, .inl (c_rankOf, 106496, .inl g_rankOf)), (rf 26, .inl (c_signOf, 106496, .inl g_signOf)), (rf 27, .inl (c_order, 4096, .inl g_order)), (rf 28, .inl (c_sizes, 4096, .inl g_sizes)), (rf 31, .inl (c_sorted, 13, .inl g_sorted)), (rf 46, .inl (c_sheet, 65536, .inl g_sheet))] → va_S A s.heap H locs → lv_has ls 6 [(0, .ref h0), (1, .int x1), (2, .int x2), (3, .int x3)] → w114_L108 (w114_L2 post k2) post x1 x2 x3 iv g_elements g_ranks g_rankOf g_signOf g_order g_sizes g_sorted g_sheet → W p l e (headSpec px_s114 ({ frames := 3, cells := 0, slots := 0, locals := 80 })).room s m ([.ref h0, .int a1x]).toArray below meth c H locs 0 0 Q (F0 m 108 ls []) := by
        intro x1 x2 x3 iv g_elements g_ranks g_rankOf g_signOf g_order g_sizes g_sorted g_sheet H locs ls hP hD hS hl hw
        unfold w114_L108 at hw
        obtain ⟨z1, ez1⟩ : ∃ y : Int32, y = x2 + 1 := ⟨_, rfl⟩
        have hw := hw z1 ez1
        refine lv_iinc (v := z1) (lv' := [(2, .int z1), (0, .ref h0), (1, .int x1), (3, .int x3)]) hx hb px_d114_108 hl (k := 2) rfl (by rw [ez1]; rfl) (by decide) rfl (fun ls hl => ?_)
        refine lv_goto (tgt := 2) hx hb px_d114_111 (by decide) ?_
        exact ih2 x1 z1 iv g_elements g_ranks g_rankOf g_signOf g_order g_sizes g_sorted g_sheet H locs ls hP hD hS (lv_sub hl [1, 2, 0] rfl) hw
      have S49 : ∀ (k49 : Nat) (x1 : Int32) (x2 : Int32) (x3 : Int32) (x4 : Int32) (x5 : Int32) (iv : Nat → Int32) (g_elements : Nat → Int32) (g_ranks : Nat → Int32) (g_rankOf : Nat → Int32) (g_signOf : Nat → Int32) (g_order : Nat → Int32) (g_sizes : Nat → Int32) (g_sorted : Nat → Int32) (g_sheet : Nat → Int32) (H : Heap) (locs : List Loc) (ls : Array Slot), va_P (dC, dI) vwCl [(h0, .inr (8, px_mf rf iv)), (rf 19, .inl (c_elements, 26, .inl g_elements)), (rf 21, .inl (c_ranks, 26, .inl g_ranks)), (rf 25, .inl (c_rankOf, 106496, .inl g_rankOf)), (rf 26, .inl (c_signOf, 106496, .inl g_signOf)), (rf 27, .inl (c_order, 4096, .inl g_order)), (rf 28, .inl (c_sizes, 4096, .inl g_sizes)), (rf 31, .inl (c_sorted, 13, .inl g_sorted)), (rf 46, .inl (c_sheet, 65536, .inl g_sheet))] H → va_D A [(h0, .inr (8, px_mf rf iv)), (rf 19, .inl (c_elements, 26, .inl g_elements)), (rf 21, .inl (c_ranks, 26, .inl g_ranks)), (rf 25, .inl (c_rankOf, 106496, .inl g_rankOf)), (rf 26, .inl (c_signOf, 106496, .inl g_signOf)), (rf 27, .inl (c_order, 4096, .inl g_order)), (rf 28, .inl (c_sizes, 4096, .inl g_sizes)), (rf 31, .inl (c_sorted, 13, .inl g_sorted)), (rf 46, .inl (c_sheet, 65536, .inl g_sheet))] → va_S A s.heap H locs → lv_has ls 6 [(0, .ref h0), (1, .int x1), (2, .int x2), (3, .int x3), (4, .int x4), (5, .int x5)] → w114_L49 (w114_L2 post k2) post k49 x1 x2 x3 x4 x5 iv g_elements g_ranks g_rankOf g_signOf g_order g_sizes g_sorted g_sheet → W p l e (headSpec px_s114 ({ frames := 3, cells := 0, slots := 0, locals := 80 })).room s m ([.ref h0, .int a1x]).toArray below meth c H locs 0 0 Q (F0 m 49 ls []) := by
        intro k49
        induction k49 with
        | zero => intro x1 x2 x3 x4 x5 iv g_elements g_ranks g_rankOf g_signOf g_order g_sizes g_sorted g_sheet H locs ls hP hD hS hl hw; exact False.elim hw
        | succ k49 ih49 =>
          have S93 : ∀ (x1 : Int32) (x2 : Int32) (x3 : Int32) (x4 : Int32) (x5 : Int32) (y0 : Int32) (iv : Nat → Int32) (g_elements : Nat → Int32) (g_ranks : Nat → Int32) (g_rankOf : Nat → Int32) (g_signOf : Nat → Int32) (g_order : Nat → Int32) (g_sizes : Nat → Int32) (g_sorted : Nat → Int32) (g_sheet : Nat → Int32) (H : Heap) (locs : List Loc) (ls : Array Slot), va_P (dC, dI) vwCl [(h0, .inr (8, px_mf rf iv)), (rf 19, .inl (c_elements, 26, .inl g_elements)), (rf 21, .inl (c_ranks, 26, .inl g_ranks)), (rf 25, .inl (c_rankOf, 106496, .inl g_rankOf)), (rf 26, .inl (c_signOf, 106496, .inl g_signOf)), (rf 27, .inl (c_order, 4096, .inl g_order)), (rf 28, .inl (c_sizes, 4096, .inl g_sizes)), (rf 31, .inl (c_sorted, 13, .inl g_sorted)), (rf 46, .inl (c_sheet, 65536, .inl g_sheet))] H → va_D A [(h0, .inr (8, px_mf rf iv)), (rf 19, .inl (c_elements, 26, .inl g_elements)), (rf 21, .inl (c_ranks, 26, .inl g_ranks)), (rf 25, .inl (c_rankOf, 106496, .inl g_rankOf)), (rf 26, .inl (c_signOf, 106496, .inl g_signOf)), (rf 27, .inl (c_order, 4096, .inl g_order)), (rf 28, .inl (c_sizes, 4096, .inl g_sizes)), (rf 31, .inl (c_sorted, 13, .inl g_sorted)), (rf 46, .inl (c_sheet, 65536, .inl g_sheet))] → va_S A s.heap H locs → lv_has ls 6 [(0, .ref h0), (1, .int x1), (2, .int x2), (3, .int x3), (4, .int x4), (5, .int x5)] → w114_L93 (w114_L2 post k2) (w114_L49 (w114_L2 post k2) post k49) post x1 x2 x3 x4 x5 y0 iv g_elements g_ranks g_rankOf g_signOf g_order g_sizes g_sorted g_sheet → W p l e (headSpec px_s114 ({ frames := 3, cells := 0, slots := 0, locals := 80 })).room s m ([.ref h0, .int a1x]).toArray below meth c H locs 0 0 Q (F0 m 93 ls [.int y0, .ref h0]) := by
            intro x1 x2 x3 x4 x5 y0 iv g_elements g_ranks g_rankOf g_signOf g_order g_sizes g_sorted g_sheet H locs ls hP hD hS hl hw
            unfold w114_L93 at hw
            have hPc := hP.sub (ws' := [(h0, .inr (8, px_mf rf iv)), (rf 46, .inl (c_sheet, 65536, .inl g_sheet))]) [0, 8] rfl
            have hDc := hD.sub (ws' := [(h0, .inr (8, px_mf rf iv)), (rf 46, .inl (c_sheet, 65536, .inl g_sheet))]) [0, 8] (by decide) rfl
            have hKc := hK.sub (tys' := [(c_sheet, .byte)]) [7] rfl
            have hFc := va_free (wc := [(h0, .inr (8, px_mf rf iv)), (rf 46, .inl (c_sheet, 65536, .inl g_sheet))]) hD hS hA [0, 8] rfl
            refine va_callv (va_runV (As := [.int y0]) (rest := []) ⟨hx, hb, hml, hown, htw⟩ (mpu_met l dC dI H.size h0 rf c_sheet y0 iv g_sheet _ hw) (cwV 1 htw (px_gv px_w700 px_w375 px_w376 px_w94 px_g37) rfl rfl rfl (by decide +kernel) ⟨Nat.le_of_ble_eq_true rfl, Nat.le_of_ble_eq_true rfl⟩) ⟨fun a U g mk q => by obtain ⟨q0, q1, qP, qK, qD, qN⟩ := q; exact ⟨q0, q1, qP, va_K.moved (u := U) (U := U.calling g mk a) (Vm.Alike.refl U.vm) qK, qD, qN.same rfl⟩, va_recv hK hP (ci := 8) (q0 := 0) rfl rfl, fun U hU hW => ⟨rfl, by rw [hU], by rw [hU]; exact hPc, va_K.moved hW.alike hKc, hDc.weaken (fun _ _ _ _ => trivial), hN.warm hW⟩⟩ rfl rfl hl.1 rfl (lv_room (Nat.le_of_ble_eq_true rfl)) px_d114_93 ⟨(Nat.le_of_ble_eq_true rfl), (Nat.le_of_ble_eq_true rfl)⟩) hS (fun q _ h => hFc q h) hFc (fun u t H1 locs ht hvm hw hB hz1 hk1 hS => ?_)
            obtain ⟨v2, v3⟩ := u
            obtain ⟨hP1, hK1, hD1⟩ := hB
            rw [ht] at hP1
            have hK1 := va_K.moved hvm.symm hK1
            obtain ⟨hP, hD⟩ := va_join (wr := [(rf 19, .inl (c_elements, 26, .inl g_elements)), (rf 21, .inl (c_ranks, 26, .inl g_ranks)), (rf 25, .inl (c_rankOf, 106496, .inl g_rankOf)), (rf 26, .inl (c_signOf, 106496, .inl g_signOf)), (rf 27, .inl (c_order, 4096, .inl g_order)), (rf 28, .inl (c_sizes, 4096, .inl g_sizes)), (rf 31, .inl (c_sorted, 13, .inl g_sorted))]) (w1 := [(h0, .inr (8, px_mf rf v2)), (rf 46, .inl (c_sheet, 65536, .inl v3))]) hP hD [0, 8] [1, 2, 3, 4, 5, 6, 7] rfl rfl (by decide) (by decide) hk1 hFc hP1 hD1
            generalize H1 = H at hP hS ⊢
            have hP : va_P (dC, dI) vwCl [(rf 19, .inl (c_elements, 26, .inl g_elements)), (rf 21, .inl (c_ranks, 26, .inl g_ranks)), (rf 25, .inl (c_rankOf, 106496, .inl g_rankOf)), (rf 26, .inl (c_signOf, 106496, .inl g_signOf)), (rf 27, .inl (c_order, 4096, .inl g_order)), (rf 28, .inl (c_sizes, 4096, .inl g_sizes)), (rf 31, .inl (c_sorted, 13, .inl g_sorted)), (h0, .inr (8, px_mf rf v2)), (rf 46, .inl (c_sheet, 65536, .inl v3))] H := hP
            have hD : va_D A [(rf 19, .inl (c_elements, 26, .inl g_elements)), (rf 21, .inl (c_ranks, 26, .inl g_ranks)), (rf 25, .inl (c_rankOf, 106496, .inl g_rankOf)), (rf 26, .inl (c_signOf, 106496, .inl g_signOf)), (rf 27, .inl (c_order, 4096, .inl g_order)), (rf 28, .inl (c_sizes, 4096, .inl g_sizes)), (rf 31, .inl (c_sorted, 13, .inl g_sorted)), (h0, .inr (8, px_mf rf v2)), (rf 46, .inl (c_sheet, 65536, .inl v3))] := hD
            have hP := hP.sub (ws' := [(h0, .inr (8, px_mf rf v2)), (rf 19, .inl (c_elements, 26, .inl g_elements)), (rf 21, .inl (c_ranks, 26, .inl g_ranks)), (rf 25, .inl (c_rankOf, 106496, .inl g_rankOf)), (rf 26, .inl (c_signOf, 106496, .inl g_signOf)), (rf 27, .inl (c_order, 4096, .inl g_order)), (rf 28, .inl (c_sizes, 4096, .inl g_sizes)), (rf 31, .inl (c_sorted, 13, .inl g_sorted)), (rf 46, .inl (c_sheet, 65536, .inl v3))]) [7, 0, 1, 2, 3, 4, 5, 6, 8] rfl
            have hD := hD.sub (ws' := [(h0, .inr (8, px_mf rf v2)), (rf 19, .inl (c_elements, 26, .inl g_elements)), (rf 21, .inl (c_ranks, 26, .inl g_ranks)), (rf 25, .inl (c_rankOf, 106496, .inl g_rankOf)), (rf 26, .inl (c_signOf, 106496, .inl g_signOf)), (rf 27, .inl (c_order, 4096, .inl g_order)), (rf 28, .inl (c_sizes, 4096, .inl g_sizes)), (rf 31, .inl (c_sorted, 13, .inl g_sorted)), (rf 46, .inl (c_sheet, 65536, .inl v3))]) [7, 0, 1, 2, 3, 4, 5, 6, 8] (by decide) rfl
            obtain ⟨z4, ez4⟩ : ∃ y : Int32, y = x5 + 1 := ⟨_, rfl⟩
            have hw := hw z4 ez4
            refine lv_iinc (v := z4) (lv' := [(5, .int z4), (0, .ref h0), (1, .int x1), (2, .int x2), (3, .int x3), (4, .int x4)]) hx hb px_d114_96 hl (k := 5) rfl (by rw [ez4]; rfl) (by decide) rfl (fun ls hl => ?_)
            refine lv_goto (tgt := 49) hx hb px_d114_99 (by decide) ?_
            exact ih49 x1 x2 x3 x4 z4 v2 g_elements g_ranks g_rankOf g_signOf g_order g_sizes g_sorted v3 H locs ls hP hD hS (lv_sub hl [1, 2, 3, 4, 5, 0] rfl) hw
          intro x1 x2 x3 x4 x5 iv g_elements g_ranks g_rankOf g_signOf g_order g_sizes g_sorted g_sheet H locs ls hP hD hS hl hw
          unfold w114_L49 at hw
          refine lv_iload hx hb px_d114_49 (lv_at hl 5 rfl) ?_
          refine lv_aload_n hx hb px_d114_51 rfl (lv_at hl 0 rfl) ?_
          refine va_get (D := (dC, dI)) (ci := 8) (v := .ref (rf 19)) (C := "MatroidDeskModel") (T := px_T8) (N := 53) hx hb htw px_in8 hown hK hP 0 rfl rfl 19 (by decide) (htw _ px_w502) (fun _ h9 => h9) rfl px_d114_52 ?_
          refine lv_iload_n hx hb px_d114_55 rfl (lv_at hl 1 rfl) ?_
          obtain ⟨hi56, hw⟩ := hw
          refine va_iald hx hb hK hP 1 0 rfl rfl hi56 px_d114_56 ?_
          refine lv_icmp_ge (tgt := 102) hx hb px_d114_57 (by decide) (fun c57 => ?_) (fun c57 => ?_)
          · have hw := hw.1 c57
            refine lv_aload_n hx hb px_d114_102 rfl (lv_at hl 0 rfl) ?_
            refine lv_bipush (v := 10) hx hb px_d114_103 (by decide) ?_
            have hPc := hP.sub (ws' := [(h0, .inr (8, px_mf rf iv)), (rf 46, .inl (c_sheet, 65536, .inl g_sheet))]) [0, 8] rfl
            have hDc := hD.sub (ws' := [(h0, .inr (8, px_mf rf iv)), (rf 46, .inl (c_sheet, 65536, .inl g_sheet))]) [0, 8] (by decide) rfl
            have hKc := hK.sub (tys' := [(c_sheet, .byte)]) [7] rfl
            have hFc := va_free (wc := [(h0, .inr (8, px_mf rf iv)), (rf 46, .inl (c_sheet, 65536, .inl g_sheet))]) hD hS hA [0, 8] rfl
            refine va_callv (va_runV (As := [.int 10]) (rest := []) ⟨hx, hb, hml, hown, htw⟩ (mpu_met l dC dI H.size h0 rf c_sheet 10 iv g_sheet _ hw) (cwV 1 htw (px_gv px_w700 px_w375 px_w376 px_w94 px_g37) rfl rfl rfl (by decide +kernel) ⟨Nat.le_of_ble_eq_true rfl, Nat.le_of_ble_eq_true rfl⟩) ⟨fun a U g mk q => by obtain ⟨q0, q1, qP, qK, qD, qN⟩ := q; exact ⟨q0, q1, qP, va_K.moved (u := U) (U := U.calling g mk a) (Vm.Alike.refl U.vm) qK, qD, qN.same rfl⟩, va_recv hK hP (ci := 8) (q0 := 0) rfl rfl, fun U hU hW => ⟨rfl, by rw [hU], by rw [hU]; exact hPc, va_K.moved hW.alike hKc, hDc.weaken (fun _ _ _ _ => trivial), hN.warm hW⟩⟩ rfl rfl hl.1 rfl (lv_room (Nat.le_of_ble_eq_true rfl)) px_d114_105 ⟨(Nat.le_of_ble_eq_true rfl), (Nat.le_of_ble_eq_true rfl)⟩) hS (fun q _ h => hFc q h) hFc (fun u t H1 locs ht hvm hw hB hz1 hk1 hS => ?_)
            obtain ⟨v5, v6⟩ := u
            obtain ⟨hP1, hK1, hD1⟩ := hB
            rw [ht] at hP1
            have hK1 := va_K.moved hvm.symm hK1
            obtain ⟨hP, hD⟩ := va_join (wr := [(rf 19, .inl (c_elements, 26, .inl g_elements)), (rf 21, .inl (c_ranks, 26, .inl g_ranks)), (rf 25, .inl (c_rankOf, 106496, .inl g_rankOf)), (rf 26, .inl (c_signOf, 106496, .inl g_signOf)), (rf 27, .inl (c_order, 4096, .inl g_order)), (rf 28, .inl (c_sizes, 4096, .inl g_sizes)), (rf 31, .inl (c_sorted, 13, .inl g_sorted))]) (w1 := [(h0, .inr (8, px_mf rf v5)), (rf 46, .inl (c_sheet, 65536, .inl v6))]) hP hD [0, 8] [1, 2, 3, 4, 5, 6, 7] rfl rfl (by decide) (by decide) hk1 hFc hP1 hD1
            generalize H1 = H at hP hS ⊢
            have hP : va_P (dC, dI) vwCl [(rf 19, .inl (c_elements, 26, .inl g_elements)), (rf 21, .inl (c_ranks, 26, .inl g_ranks)), (rf 25, .inl (c_rankOf, 106496, .inl g_rankOf)), (rf 26, .inl (c_signOf, 106496, .inl g_signOf)), (rf 27, .inl (c_order, 4096, .inl g_order)), (rf 28, .inl (c_sizes, 4096, .inl g_sizes)), (rf 31, .inl (c_sorted, 13, .inl g_sorted)), (h0, .inr (8, px_mf rf v5)), (rf 46, .inl (c_sheet, 65536, .inl v6))] H := hP
            have hD : va_D A [(rf 19, .inl (c_elements, 26, .inl g_elements)), (rf 21, .inl (c_ranks, 26, .inl g_ranks)), (rf 25, .inl (c_rankOf, 106496, .inl g_rankOf)), (rf 26, .inl (c_signOf, 106496, .inl g_signOf)), (rf 27, .inl (c_order, 4096, .inl g_order)), (rf 28, .inl (c_sizes, 4096, .inl g_sizes)), (rf 31, .inl (c_sorted, 13, .inl g_sorted)), (h0, .inr (8, px_mf rf v5)), (rf 46, .inl (c_sheet, 65536, .inl v6))] := hD
            have hP := hP.sub (ws' := [(h0, .inr (8, px_mf rf v5)), (rf 19, .inl (c_elements, 26, .inl g_elements)), (rf 21, .inl (c_ranks, 26, .inl g_ranks)), (rf 25, .inl (c_rankOf, 106496, .inl g_rankOf)), (rf 26, .inl (c_signOf, 106496, .inl g_signOf)), (rf 27, .inl (c_order, 4096, .inl g_order)), (rf 28, .inl (c_sizes, 4096, .inl g_sizes)), (rf 31, .inl (c_sorted, 13, .inl g_sorted)), (rf 46, .inl (c_sheet, 65536, .inl v6))]) [7, 0, 1, 2, 3, 4, 5, 6, 8] rfl
            have hD := hD.sub (ws' := [(h0, .inr (8, px_mf rf v5)), (rf 19, .inl (c_elements, 26, .inl g_elements)), (rf 21, .inl (c_ranks, 26, .inl g_ranks)), (rf 25, .inl (c_rankOf, 106496, .inl g_rankOf)), (rf 26, .inl (c_signOf, 106496, .inl g_signOf)), (rf 27, .inl (c_order, 4096, .inl g_order)), (rf 28, .inl (c_sizes, 4096, .inl g_sizes)), (rf 31, .inl (c_sorted, 13, .inl g_sorted)), (rf 46, .inl (c_sheet, 65536, .inl v6))]) [7, 0, 1, 2, 3, 4, 5, 6, 8] (by decide) rfl
            exact S108 x1 x2 x3 v5 g_elements g_ranks g_rankOf g_signOf g_order g_sizes g_sorted v6 H locs ls hP hD hS (lv_sub hl [0, 1, 2, 3] rfl) hw
          · have hw := hw.2 c57
            refine lv_aload_n hx hb px_d114_60 rfl (lv_at hl 0 rfl) ?_
            refine lv_iload_n hx hb px_d114_61 rfl (lv_at hl 3 rfl) ?_
            refine lv_iload hx hb px_d114_62 (lv_at hl 5 rfl) ?_
            refine lv_ishr hx hb px_d114_64 ?_
            refine lv_iconst (v := 1) hx hb px_d114_65 (by decide) ?_
            refine lv_iand hx hb px_d114_66 ?_
            refine lv_if_ne (tgt := 75) hx hb px_d114_67 (by decide) (fun c67 => ?_) (fun c67 => ?_)
            · have hw := hw.1 c67
              refine lv_iload hx hb px_d114_75 (lv_at hl 4 rfl) ?_
              refine lv_iload hx hb px_d114_77 (lv_at hl 5 rfl) ?_
              refine lv_ishr hx hb px_d114_79 ?_
              refine lv_iconst (v := 1) hx hb px_d114_80 (by decide) ?_
              refine lv_iand hx hb px_d114_81 ?_
              refine lv_iconst (v := 1) hx hb px_d114_82 (by decide) ?_
              refine lv_icmp_ne (tgt := 91) hx hb px_d114_83 (by decide) (fun c83 => ?_) (fun c83 => ?_)
              · have hw := hw.1 c83
                refine lv_bipush (v := 43) hx hb px_d114_91 (by decide) ?_
                exact S93 x1 x2 x3 x4 x5 43 iv g_elements g_ranks g_rankOf g_signOf g_order g_sizes g_sorted g_sheet H locs ls hP hD hS (lv_sub hl [0, 1, 2, 3, 4, 5] rfl) hw
              · have hw := hw.2 c83
                refine lv_bipush (v := 45) hx hb px_d114_86 (by decide) ?_
                refine lv_goto (tgt := 93) hx hb px_d114_88 (by decide) ?_
                exact S93 x1 x2 x3 x4 x5 45 iv g_elements g_ranks g_rankOf g_signOf g_order g_sizes g_sorted g_sheet H locs ls hP hD hS (lv_sub hl [0, 1, 2, 3, 4, 5] rfl) hw
            · have hw := hw.2 c67
              refine lv_bipush (v := 48) hx hb px_d114_70 (by decide) ?_
              refine lv_goto (tgt := 93) hx hb px_d114_72 (by decide) ?_
              exact S93 x1 x2 x3 x4 x5 48 iv g_elements g_ranks g_rankOf g_signOf g_order g_sizes g_sorted g_sheet H locs ls hP hD hS (lv_sub hl [0, 1, 2, 3, 4, 5] rfl) hw
      intro x1 x2 iv g_elements g_ranks g_rankOf g_signOf g_order g_sizes g_sorted g_sheet H locs ls hP hD hS hl hw
      unfold w114_L2 at hw
      refine lv_iload_n hx hb px_d114_2 rfl (lv_at hl 2 rfl) ?_
      refine lv_sipush (v := 4096) hx hb px_d114_3 (by decide) ?_
      refine lv_icmp_ge (tgt := 114) hx hb px_d114_6 (by decide) (fun c6 => ?_) (fun c6 => ?_)
      · have hw := hw.1 c6
        rw [← hQ]
        exact W.vret hx hb hr (fun t ht hW => ⟨⟨(iv, g_elements, g_ranks, g_rankOf, g_signOf, g_order, g_sizes, g_sorted, g_sheet), rfl, hw, by rw [ht]; exact hP, va_K.moved hW.alike hK, hD⟩, hS.F ht⟩) hS.2.2 px_d114_114
      · have hw := hw.2 c6
        refine lv_aload_n hx hb px_d114_9 rfl (lv_at hl 0 rfl) ?_
        refine va_get (D := (dC, dI)) (ci := 8) (v := .ref (rf 27)) (C := "MatroidDeskModel") (T := px_T8) (N := 53) hx hb htw px_in8 hown hK hP 0 rfl rfl 27 (by decide) (htw _ px_w512) (fun _ h9 => h9) rfl px_d114_10 ?_
        refine lv_iload_n hx hb px_d114_13 rfl (lv_at hl 2 rfl) ?_
        obtain ⟨hi14, hw⟩ := hw
        refine va_iald hx hb hK hP 5 4 rfl rfl hi14 px_d114_14 ?_
        refine lv_topi (fun z7 ez7 => ?_)
        have hw := hw z7 ez7
        refine lv_istore_n (lv' := [(3, .int z7), (0, .ref h0), (1, .int x1), (2, .int x2)]) hx hb px_d114_15 rfl hl (by decide) rfl (fun ls hl => ?_)
        refine lv_iload_n hx hb px_d114_16 rfl (lv_at hl 0 rfl) ?_
        refine lv_aload_n hx hb px_d114_17 rfl (lv_at hl 1 rfl) ?_
        refine lv_iload_n hx hb px_d114_18 rfl (lv_at hl 2 rfl) ?_
        have hPc := hP.sub (ws' := [(h0, .inr (8, px_mf rf iv)), (rf 19, .inl (c_elements, 26, .inl g_elements))]) [0, 1] rfl
        have hDc := hD.sub (ws' := [(h0, .inr (8, px_mf rf iv)), (rf 19, .inl (c_elements, 26, .inl g_elements))]) [0, 1] (by decide) rfl
        have hKc := hK.sub (tys' := [(c_elements, .int)]) [0] rfl
        have hFc := va_free (wc := [(h0, .inr (8, px_mf rf iv)), (rf 19, .inl (c_elements, 26, .inl g_elements))]) hD hS hA [0, 1] rfl
        refine va_calli (va_runV (As := [.int x1]) (rest := [.int z7]) ⟨hx, hb, hml, hown, htw⟩ (w71_met l dC dI H.size h0 rf c_elements x1 iv g_elements _ hw) (cwV 1 htw (px_gv px_w565 px_w556 px_w557 px_w94 px_g71) rfl rfl rfl (by decide +kernel) ⟨Nat.le_of_ble_eq_true rfl, Nat.le_of_ble_eq_true rfl⟩) ⟨fun a U g mk q => by obtain ⟨q0, q1, qP, qK, qD, qN⟩ := q; exact ⟨q0, q1, qP, va_K.moved (u := U) (U := U.calling g mk a) (Vm.Alike.refl U.vm) qK, qD, qN.same rfl⟩, va_recv hK hP (ci := 8) (q0 := 0) rfl rfl, fun U hU hW => ⟨rfl, by rw [hU], by rw [hU]; exact hPc, va_K.moved hW.alike hKc, hDc.weaken (fun _ _ _ _ => trivial), hN.warm hW⟩⟩ rfl rfl hl.1 rfl (lv_room (Nat.le_of_ble_eq_true rfl)) px_d114_19 ⟨(Nat.le_of_ble_eq_true rfl), (Nat.le_of_ble_eq_true rfl)⟩) hS (fun q _ h => hFc q h) hFc (fun r19 u t H1 locs ht hvm hw hB hz1 hk1 hS => ?_)
        obtain ⟨v8, v9⟩ := u
        obtain ⟨hP1, hK1, hD1⟩ := hB
        rw [ht] at hP1
        have hK1 := va_K.moved hvm.symm hK1
        obtain ⟨hP, hD⟩ := va_join (wr := [(rf 21, .inl (c_ranks, 26, .inl g_ranks)), (rf 25, .inl (c_rankOf, 106496, .inl g_rankOf)), (rf 26, .inl (c_signOf, 106496, .inl g_signOf)), (rf 27, .inl (c_order, 4096, .inl g_order)), (rf 28, .inl (c_sizes, 4096, .inl g_sizes)), (rf 31, .inl (c_sorted, 13, .inl g_sorted)), (rf 46, .inl (c_sheet, 65536, .inl g_sheet))]) (w1 := [(h0, .inr (8, px_mf rf v8)), (rf 19, .inl (c_elements, 26, .inl v9))]) hP hD [0, 1] [2, 3, 4, 5, 6, 7, 8] rfl rfl (by decide) (by decide) hk1 hFc hP1 hD1
        generalize H1 = H at hP hS ⊢
        have hP : va_P (dC, dI) vwCl [(rf 21, .inl (c_ranks, 26, .inl g_ranks)), (rf 25, .inl (c_rankOf, 106496, .inl g_rankOf)), (rf 26, .inl (c_signOf, 106496, .inl g_signOf)), (rf 27, .inl (c_order, 4096, .inl g_order)), (rf 28, .inl (c_sizes, 4096, .inl g_sizes)), (rf 31, .inl (c_sorted, 13, .inl g_sorted)), (rf 46, .inl (c_sheet, 65536, .inl g_sheet)), (h0, .inr (8, px_mf rf v8)), (rf 19, .inl (c_elements, 26, .inl v9))] H := hP
        have hD : va_D A [(rf 21, .inl (c_ranks, 26, .inl g_ranks)), (rf 25, .inl (c_rankOf, 106496, .inl g_rankOf)), (rf 26, .inl (c_signOf, 106496, .inl g_signOf)), (rf 27, .inl (c_order, 4096, .inl g_order)), (rf 28, .inl (c_sizes, 4096, .inl g_sizes)), (rf 31, .inl (c_sorted, 13, .inl g_sorted)), (rf 46, .inl (c_sheet, 65536, .inl g_sheet)), (h0, .inr (8, px_mf rf v8)), (rf 19, .inl (c_elements, 26, .inl v9))] := hD
        have hP := hP.sub (ws' := [(h0, .inr (8, px_mf rf v8)), (rf 19, .inl (c_elements, 26, .inl v9)), (rf 21, .inl (c_ranks, 26, .inl g_ranks)), (rf 25, .inl (c_rankOf, 106496, .inl g_rankOf)), (rf 26, .inl (c_signOf, 106496, .inl g_signOf)), (rf 27, .inl (c_order, 4096, .inl g_order)), (rf 28, .inl (c_sizes, 4096, .inl g_sizes)), (rf 31, .inl (c_sorted, 13, .inl g_sorted)), (rf 46, .inl (c_sheet, 65536, .inl g_sheet))]) [7, 8, 0, 1, 2, 3, 4, 5, 6] rfl
        have hD := hD.sub (ws' := [(h0, .inr (8, px_mf rf v8)), (rf 19, .inl (c_elements, 26, .inl v9)), (rf 21, .inl (c_ranks, 26, .inl g_ranks)), (rf 25, .inl (c_rankOf, 106496, .inl g_rankOf)), (rf 26, .inl (c_signOf, 106496, .inl g_signOf)), (rf 27, .inl (c_order, 4096, .inl g_order)), (rf 28, .inl (c_sizes, 4096, .inl g_sizes)), (rf 31, .inl (c_sorted, 13, .inl g_sorted)), (rf 46, .inl (c_sheet, 65536, .inl g_sheet))]) [7, 8, 0, 1, 2, 3, 4, 5, 6] (by decide) rfl
        refine lv_icmp_gt (tgt := 108) hx hb px_d114_22 (by decide) (fun c22 => ?_) (fun c22 => ?_)
        · have hw := hw.1 c22
          exact S108 x1 x2 z7 v8 v9 g_ranks g_rankOf g_signOf g_order g_sizes g_sorted g_sheet H locs ls hP hD hS (lv_sub hl [1, 2, 3, 0] rfl) hw
        · have hw := hw.2 c22
          refine lv_aload_n hx hb px_d114_25 rfl (lv_at hl 1 rfl) ?_
          refine lv_iload_n hx hb px_d114_26 rfl (lv_at hl 2 rfl) ?_
          refine lv_iload_n hx hb px_d114_27 rfl (lv_at hl 0 rfl) ?_
          refine lv_iconst (v := 0) hx hb px_d114_28 (by decide) ?_
          have hPc := hP.sub (ws' := [(h0, .inr (8, px_mf rf v8)), (rf 19, .inl (c_elements, 26, .inl v9)), (rf 21, .inl (c_ranks, 26, .inl g_ranks)), (rf 25, .inl (c_rankOf, 106496, .inl g_rankOf)), (rf 28, .inl (c_sizes, 4096, .inl g_sizes))]) [0, 1, 2, 3, 6] rfl
          have hDc := hD.sub (ws' := [(h0, .inr (8, px_mf rf v8)), (rf 19, .inl (c_elements, 26, .inl v9)), (rf 21, .inl (c_ranks, 26, .inl g_ranks)), (rf 25, .inl (c_rankOf, 106496, .inl g_rankOf)), (rf 28, .inl (c_sizes, 4096, .inl g_sizes))]) [0, 1, 2, 3, 6] (by decide) rfl
          have hKc := hK.sub (tys' := [(c_elements, .int), (c_ranks, .int), (c_rankOf, .byte), (c_sizes, .int)]) [0, 1, 2, 5] rfl
          have hFc := va_free (wc := [(h0, .inr (8, px_mf rf v8)), (rf 19, .inl (c_elements, 26, .inl v9)), (rf 21, .inl (c_ranks, 26, .inl g_ranks)), (rf 25, .inl (c_rankOf, 106496, .inl g_rankOf)), (rf 28, .inl (c_sizes, 4096, .inl g_sizes))]) hD hS hA [0, 1, 2, 3, 6] rfl
          refine va_calli (va_runV (As := [.int x1, .int z7, .int 0]) (rest := []) ⟨hx, hb, hml, hown, htw⟩ (w74_met l dC dI H.size h0 rf c_elements c_ranks c_rankOf c_sizes x1 z7 0 v8 v9 g_ranks g_rankOf g_sizes _ hw) (cwV 3 htw (px_gv px_w578 px_w567 px_w568 px_w94 px_g74) rfl rfl rfl (by decide +kernel) ⟨Nat.le_of_ble_eq_true rfl, Nat.le_of_ble_eq_true rfl⟩) ⟨fun a U g mk q => by obtain ⟨q0, q1, qP, qK, qD, qN⟩ := q; exact ⟨q0, q1, qP, va_K.moved (u := U) (U := U.calling g mk a) (Vm.Alike.refl U.vm) qK, qD, qN.same rfl⟩, va_recv hK hP (ci := 8) (q0 := 0) rfl rfl, fun U hU hW => ⟨rfl, by rw [hU], by rw [hU]; exact hPc, va_K.moved hW.alike hKc, hDc.weaken (fun _ _ _ _ => trivial), hN.warm hW⟩⟩ rfl rfl hl.1 rfl (lv_room (Nat.le_of_ble_eq_true rfl)) px_d114_29 ⟨(Nat.le_of_ble_eq_true rfl), (Nat.le_of_ble_eq_true rfl)⟩) hS (fun q _ h => hFc q h) hFc (fun r29 u t H1 locs ht hvm hw hB hz1 hk1 hS => ?_)
          obtain ⟨v10, v11, v12, v13, v14⟩ := u
          obtain ⟨hP1, hK1, hD1⟩ := hB
          rw [ht] at hP1
          have hK1 := va_K.moved hvm.symm hK1
          obtain ⟨hP, hD⟩ := va_join (wr := [(rf 26, .inl (c_signOf, 106496, .inl g_signOf)), (rf 27, .inl (c_order, 4096, .inl g_order)), (rf 31, .inl (c_sorted, 13, .inl g_sorted)), (rf 46, .inl (c_sheet, 65536, .inl g_sheet))]) (w1 := [(h0, .inr (8, px_mf rf v10)), (rf 19, .inl (c_elements, 26, .inl v11)), (rf 21, .inl (c_ranks, 26, .inl v12)), (rf 25, .inl (c_rankOf, 106496, .inl v13)), (rf 28, .inl (c_sizes, 4096, .inl v14))]) hP hD [0, 1, 2, 3, 6] [4, 5, 7, 8] rfl rfl (by decide) (by decide) hk1 hFc hP1 hD1
          generalize H1 = H at hP hS ⊢
          have hP : va_P (dC, dI) vwCl [(rf 26, .inl (c_signOf, 106496, .inl g_signOf)), (rf 27, .inl (c_order, 4096, .inl g_order)), (rf 31, .inl (c_sorted, 13, .inl g_sorted)), (rf 46, .inl (c_sheet, 65536, .inl g_sheet)), (h0, .inr (8, px_mf rf v10)), (rf 19, .inl (c_elements, 26, .inl v11)), (rf 21, .inl (c_ranks, 26, .inl v12)), (rf 25, .inl (c_rankOf, 106496, .inl v13)), (rf 28, .inl (c_sizes, 4096, .inl v14))] H := hP
          have hD : va_D A [(rf 26, .inl (c_signOf, 106496, .inl g_signOf)), (rf 27, .inl (c_order, 4096, .inl g_order)), (rf 31, .inl (c_sorted, 13, .inl g_sorted)), (rf 46, .inl (c_sheet, 65536, .inl g_sheet)), (h0, .inr (8, px_mf rf v10)), (rf 19, .inl (c_elements, 26, .inl v11)), (rf 21, .inl (c_ranks, 26, .inl v12)), (rf 25, .inl (c_rankOf, 106496, .inl v13)), (rf 28, .inl (c_sizes, 4096, .inl v14))] := hD
          have hP := hP.sub (ws' := [(h0, .inr (8, px_mf rf v10)), (rf 19, .inl (c_elements, 26, .inl v11)), (rf 21, .inl (c_ranks, 26, .inl v12)), (rf 25, .inl (c_rankOf, 106496, .inl v13)), (rf 26, .inl (c_signOf, 106496, .inl g_signOf)), (rf 27, .inl (c_order, 4096, .inl g_order)), (rf 28, .inl (c_sizes, 4096, .inl v14)), (rf 31, .inl (c_sorted, 13, .inl g_sorted)), (rf 46, .inl (c_sheet, 65536, .inl g_sheet))]) [4, 5, 6, 7, 0, 1, 8, 2, 3] rfl
          have hD := hD.sub (ws' := [(h0, .inr (8, px_mf rf v10)), (rf 19, .inl (c_elements, 26, .inl v11)), (rf 21, .inl (c_ranks, 26, .inl v12)), (rf 25, .inl (c_rankOf, 106496, .inl v13)), (rf 26, .inl (c_signOf, 106496, .inl g_signOf)), (rf 27, .inl (c_order, 4096, .inl g_order)), (rf 28, .inl (c_sizes, 4096, .inl v14)), (rf 31, .inl (c_sorted, 13, .inl g_sorted)), (rf 46, .inl (c_sheet, 65536, .inl g_sheet))]) [4, 5, 6, 7, 0, 1, 8, 2, 3] (by decide) rfl
          refine lv_if_ne (tgt := 38) hx hb px_d114_32 (by decide) (fun c32 => ?_) (fun c32 => ?_)
          · have hw := hw.1 c32
            refine lv_aload_n hx hb px_d114_38 rfl (lv_at hl 1 rfl) ?_
            refine lv_iload_n hx hb px_d114_39 rfl (lv_at hl 2 rfl) ?_
            refine lv_iload_n hx hb px_d114_40 rfl (lv_at hl 0 rfl) ?_
            have hPc := hP.sub (ws' := [(h0, .inr (8, px_mf rf v10)), (rf 19, .inl (c_elements, 26, .inl v11)), (rf 25, .inl (c_rankOf, 106496, .inl v13)), (rf 26, .inl (c_signOf, 106496, .inl g_signOf)), (rf 31, .inl (c_sorted, 13, .inl g_sorted))]) [0, 1, 3, 4, 7] rfl
            have hDc := hD.sub (ws' := [(h0, .inr (8, px_mf rf v10)), (rf 19, .inl (c_elements, 26, .inl v11)), (rf 25, .inl (c_rankOf, 106496, .inl v13)), (rf 26, .inl (c_signOf, 106496, .inl g_signOf)), (rf 31, .inl (c_sorted, 13, .inl g_sorted))]) [0, 1, 3, 4, 7] (by decide) rfl
            have hKc := hK.sub (tys' := [(c_elements, .int), (c_rankOf, .byte), (c_signOf, .byte), (c_sorted, .int)]) [0, 2, 3, 6] rfl
            have hFc := va_free (wc := [(h0, .inr (8, px_mf rf v10)), (rf 19, .inl (c_elements, 26, .inl v11)), (rf 25, .inl (c_rankOf, 106496, .inl v13)), (rf 26, .inl (c_signOf, 106496, .inl g_signOf)), (rf 31, .inl (c_sorted, 13, .inl g_sorted))]) hD hS hA [0, 1, 3, 4, 7] rfl
            refine va_calli (va_runV (As := [.int x1, .int z7]) (rest := []) ⟨hx, hb, hml, hown, htw⟩ (w84_met l dC dI H.size h0 rf c_elements c_rankOf c_signOf c_sorted x1 z7 v10 v11 v13 g_signOf g_sorted _ hw) (cwV 2 htw (px_gv px_w737 px_w602 px_w603 px_w94 px_g84) rfl rfl rfl (by decide +kernel) ⟨Nat.le_of_ble_eq_true rfl, Nat.le_of_ble_eq_true rfl⟩) ⟨fun a U g mk q => by obtain ⟨q0, q1, qP, qK, qD, qN⟩ := q; exact ⟨q0, q1, qP, va_K.moved (u := U) (U := U.calling g mk a) (Vm.Alike.refl U.vm) qK, qD, qN.same rfl⟩, va_recv hK hP (ci := 8) (q0 := 0) rfl rfl, fun U hU hW => ⟨rfl, by rw [hU], by rw [hU]; exact hPc, va_K.moved hW.alike hKc, hDc.weaken (fun _ _ _ _ => trivial), hN.warm hW⟩⟩ rfl rfl hl.1 rfl (lv_room (Nat.le_of_ble_eq_true rfl)) px_d114_41 ⟨(Nat.le_of_ble_eq_true rfl), (Nat.le_of_ble_eq_true rfl)⟩) hS (fun q _ h => hFc q h) hFc (fun r41 u t H1 locs ht hvm hw hB hz1 hk1 hS => ?_)
            obtain ⟨v15, v16, v17, v18, v19⟩ := u
            obtain ⟨hP1, hK1, hD1⟩ := hB
            rw [ht] at hP1
            have hK1 := va_K.moved hvm.symm hK1
            obtain ⟨hP, hD⟩ := va_join (wr := [(rf 21, .inl (c_ranks, 26, .inl v12)), (rf 27, .inl (c_order, 4096, .inl g_order)), (rf 28, .inl (c_sizes, 4096, .inl v14)), (rf 46, .inl (c_sheet, 65536, .inl g_sheet))]) (w1 := [(h0, .inr (8, px_mf rf v15)), (rf 19, .inl (c_elements, 26, .inl v16)), (rf 25, .inl (c_rankOf, 106496, .inl v17)), (rf 26, .inl (c_signOf, 106496, .inl v18)), (rf 31, .inl (c_sorted, 13, .inl v19))]) hP hD [0, 1, 3, 4, 7] [2, 5, 6, 8] rfl rfl (by decide) (by decide) hk1 hFc hP1 hD1
            generalize H1 = H at hP hS ⊢
            have hP : va_P (dC, dI) vwCl [(rf 21, .inl (c_ranks, 26, .inl v12)), (rf 27, .inl (c_order, 4096, .inl g_order)), (rf 28, .inl (c_sizes, 4096, .inl v14)), (rf 46, .inl (c_sheet, 65536, .inl g_sheet)), (h0, .inr (8, px_mf rf v15)), (rf 19, .inl (c_elements, 26, .inl v16)), (rf 25, .inl (c_rankOf, 106496, .inl v17)), (rf 26, .inl (c_signOf, 106496, .inl v18)), (rf 31, .inl (c_sorted, 13, .inl v19))] H := hP
            have hD : va_D A [(rf 21, .inl (c_ranks, 26, .inl v12)), (rf 27, .inl (c_order, 4096, .inl g_order)), (rf 28, .inl (c_sizes, 4096, .inl v14)), (rf 46, .inl (c_sheet, 65536, .inl g_sheet)), (h0, .inr (8, px_mf rf v15)), (rf 19, .inl (c_elements, 26, .inl v16)), (rf 25, .inl (c_rankOf, 106496, .inl v17)), (rf 26, .inl (c_signOf, 106496, .inl v18)), (rf 31, .inl (c_sorted, 13, .inl v19))] := hD
            have hP := hP.sub (ws' := [(h0, .inr (8, px_mf rf v15)), (rf 19, .inl (c_elements, 26, .inl v16)), (rf 21, .inl (c_ranks, 26, .inl v12)), (rf 25, .inl (c_rankOf, 106496, .inl v17)), (rf 26, .inl (c_signOf, 106496, .inl v18)), (rf 27, .inl (c_order, 4096, .inl g_order)), (rf 28, .inl (c_sizes, 4096, .inl v14)), (rf 31, .inl (c_sorted, 13, .inl v19)), (rf 46, .inl (c_sheet, 65536, .inl g_sheet))]) [4, 5, 0, 6, 7, 1, 2, 8, 3] rfl
            have hD := hD.sub (ws' := [(h0, .inr (8, px_mf rf v15)), (rf 19, .inl (c_elements, 26, .inl v16)), (rf 21, .inl (c_ranks, 26, .inl v12)), (rf 25, .inl (c_rankOf, 106496, .inl v17)), (rf 26, .inl (c_signOf, 106496, .inl v18)), (rf 27, .inl (c_order, 4096, .inl g_order)), (rf 28, .inl (c_sizes, 4096, .inl v14)), (rf 31, .inl (c_sorted, 13, .inl v19)), (rf 46, .inl (c_sheet, 65536, .inl g_sheet))]) [4, 5, 0, 6, 7, 1, 2, 8, 3] (by decide) rfl
            refine lv_istore (lv' := [(4, .int r41), (3, .int z7), (0, .ref h0), (1, .int x1), (2, .int x2)]) hx hb px_d114_44 hl (by decide) rfl (fun ls hl => ?_)
            refine lv_iconst (v := 0) hx hb px_d114_46 (by decide) ?_
            refine lv_istore (lv' := [(5, .int 0), (4, .int r41), (3, .int z7), (0, .ref h0), (1, .int x1), (2, .int x2)]) hx hb px_d114_47 hl (by decide) rfl (fun ls hl => ?_)
            obtain ⟨k9, hw⟩ := hw
            exact S49 k9 x1 x2 z7 r41 0 v15 v16 v12 v17 v18 g_order v14 v19 g_sheet H locs ls hP hD hS (lv_sub hl [3, 4, 5, 2, 1, 0] rfl) hw
          · have hw := hw.2 c32
            refine lv_goto (tgt := 108) hx hb px_d114_35 (by decide) ?_
            exact S108 x1 x2 z7 v10 v11 v12 v13 g_signOf g_order v14 g_sorted g_sheet H locs ls hP hD hS (lv_sub hl [1, 2, 3, 0] rfl) hw
  unfold w114_wp at hw
  have hS0 := hS
  obtain ⟨H, hH9⟩ : ∃ z, z = s.heap := ⟨_, rfl⟩
  have hP : va_P (dC, dI) vwCl [(h0, .inr (8, px_mf rf iv)), (rf 19, .inl (c_elements, 26, .inl g_elements)), (rf 21, .inl (c_ranks, 26, .inl g_ranks)), (rf 25, .inl (c_rankOf, 106496, .inl g_rankOf)), (rf 26, .inl (c_signOf, 106496, .inl g_signOf)), (rf 27, .inl (c_order, 4096, .inl g_order)), (rf 28, .inl (c_sizes, 4096, .inl g_sizes)), (rf 31, .inl (c_sorted, 13, .inl g_sorted)), (rf 46, .inl (c_sheet, 65536, .inl g_sheet))] H := by rw [hH9]; exact hP
  obtain ⟨locs, hlo9⟩ : ∃ z : List Loc, z = [] := ⟨_, rfl⟩
  have hS : va_S A s.heap H locs := by rw [hH9, hlo9]; exact hS
  suffices hG : W p l e (headSpec px_s114 ({ frames := 3, cells := 0, slots := 0, locals := 80 })).room s m ([.ref h0, .int a1x]).toArray below meth c H locs 0 0 Q (F0 m 0 ls []) by rw [hH9, hlo9] at hG; exact hG
  refine lv_iconst (v := 0) hx hb px_d114_0 (by decide) ?_
  refine lv_istore_n (lv' := [(2, .int 0), (0, .ref h0), (1, .int a1x)]) hx hb px_d114_1 rfl hl (by decide) rfl (fun ls hl => ?_)
  obtain ⟨k9, hw⟩ := hw
  exact S2 k9 a1x 0 iv g_elements g_ranks g_rankOf g_signOf g_order g_sizes g_sorted g_sheet H locs ls hP hD hS (lv_sub hl [1, 2, 0] rfl) hw

