/-! MatroidDeskModel.mark(I)I -/
def w112_L20 (post : Int32 → Prop) (x0 : Int32) (y0 : Int32) : Prop := post y0 
def w112_wp (post : Int32 → Prop) (a0x : Int32) : Prop := (0 ≤ a0x → (a0x ≤ 0 → w112_L20 post a0x 48) ∧ (¬ a0x ≤ 0 → w112_L20 post a0x 43)) ∧ (¬ 0 ≤ a0x → w112_L20 post a0x 45)
set_option maxHeartbeats 8000000 in
set_option maxRecDepth 100000 in
theorem w112_met (l : Launch) (dC : Nat → ClassId) (dI : Nat → Nat → Nat) (sz : Nat) (a0x : Int32) (post : Int32 → Prop) (hw : w112_wp post a0x) : Met l px_y112 px_s112 ({ frames := 0, cells := 0, slots := 0, locals := 0 }) (va_Pc [.int a0x] (fun U => U.heap.size = sz ∧ va_P (dC, dI) vwCl [] U.heap ∧ va_K (dC, dI) vwCl [] U ∧ va_D (fun _ => True) [] ∧ px_N U)) (va_Qi (fun (r : Int32) (u : Unit) => post r ) (fun (u : Unit) (t : State) => va_P (dC, dI) vwCl [] t.heap ∧ va_K (dC, dI) vwCl [] t ∧ va_D (va_A [] sz) []) (va_A [] sz)) 0 0 (va_A [] sz) := by
  refine Met.ofW (cc := prog_15_method_83_code) (maxL := 1) (ret := (some .int)) (by decide) rfl ?_
  intro p e s m args below meth c s₁ B hml hv
  obtain ⟨rfl, hsz, hP, hK, hD0, hN⟩ := hv
  have hx := B.exec
  have hb := B.bytes
  have hr := B.returns
  have htw : ∀ w ∈ px_all, w.before _ s = true := fun w h => atoms_spec (ws := px_s112) B.pre w (List.mem_cons_of_mem _ h)
  have hown : s.vm.findClass "MatroidDeskModel" = some m.cls := findClass_of_methodNamed B.named
  have hlocks := B.notSynchronized
  subst hsz
  have hD := hD0.self (sz := s.heap.size)
  generalize hAe : va_A [] s.heap.size = A at hD ⊢
  have hA : ∀ q : Nat, s.heap.size ≤ q → A q := fun q h => by rw [← hAe]; exact Or.inr h
  have hS : va_S A s.heap s.heap [] := va_S.rf
  have hP : va_P (dC, dI) vwCl [] s.heap := hP
  have hl := lv_entry ([.int a0x]) (n := 1) (Nat.le_of_ble_eq_true rfl)
  rw [lg_entry_eq]
  generalize (lg_sl ([.int a0x]) ++ List.replicate (1 - (lg_sl ([.int a0x])).length) Slot.unset).toArray = ls at hl ⊢
  have hl : lv_has ls 1 [(0, .int a0x)] := hl
  generalize hQ : MQ _ _ _ _ _ _ _ = Q
  have S20 : ∀ (x0 : Int32) (y0 : Int32) (H : Heap) (locs : List Loc) (ls : Array Slot), va_P (dC, dI) vwCl [] H → va_D A [] → va_S A s.heap H locs → lv_has ls 1 [(0, .int x0)] → w112_L20 post x0 y0 → W p l e (headSpec px_s112 ({ frames := 0, cells := 0, slots := 0, locals := 0 })).room s m ([.int a0x]).toArray below meth c H locs 0 0 Q (F0 m 20 ls [.int y0]) := by
    intro x0 y0 H locs ls hP hD hS hl hw
    unfold w112_L20 at hw
    rw [← hQ]
    exact W.iret (v := y0) hx hb hr (fun t ht hW => ⟨⟨y0, (), rfl, hw, by rw [ht]; exact hP, va_K.moved hW.alike hK, hD⟩, hS.F ht⟩) hS.2.2 px_d112_20
  unfold w112_wp at hw
  have hS0 := hS
  obtain ⟨H, hH9⟩ : ∃ z, z = s.heap := ⟨_, rfl⟩
  have hP : va_P (dC, dI) vwCl [] H := by rw [hH9]; exact hP
  obtain ⟨locs, hlo9⟩ : ∃ z : List Loc, z = [] := ⟨_, rfl⟩
  have hS : va_S A s.heap H locs := by rw [hH9, hlo9]; exact hS
  suffices hG : W p l e (headSpec px_s112 ({ frames := 0, cells := 0, slots := 0, locals := 0 })).room s m ([.int a0x]).toArray below meth c H locs 0 0 Q (F0 m 0 ls []) by rw [hH9, hlo9] at hG; exact hG
  refine lv_iload_n hx hb px_d112_0 rfl (lv_at hl 0 rfl) ?_
  refine lv_if_ge (tgt := 9) hx hb px_d112_1 (by decide) (fun c1 => ?_) (fun c1 => ?_)
  · have hw := hw.1 c1
    refine lv_iload_n hx hb px_d112_9 rfl (lv_at hl 0 rfl) ?_
    refine lv_if_le (tgt := 18) hx hb px_d112_10 (by decide) (fun c10 => ?_) (fun c10 => ?_)
    · have hw := hw.1 c10
      refine lv_bipush (v := 48) hx hb px_d112_18 (by decide) ?_
      exact S20 a0x 48 H locs ls hP hD hS (lv_sub hl [0] rfl) hw
    · have hw := hw.2 c10
      refine lv_bipush (v := 43) hx hb px_d112_13 (by decide) ?_
      refine lv_goto (tgt := 20) hx hb px_d112_15 (by decide) ?_
      exact S20 a0x 43 H locs ls hP hD hS (lv_sub hl [0] rfl) hw
  · have hw := hw.2 c1
    refine lv_bipush (v := 45) hx hb px_d112_4 (by decide) ?_
    refine lv_goto (tgt := 20) hx hb px_d112_6 (by decide) ?_
    exact S20 a0x 45 H locs ls hP hD hS (lv_sub hl [0] rfl) hw

/-! MatroidDeskModel.putChirotope(I)V -/
def w113_L67 (K2 : Int32 → Int32 → (Nat → Int32) → (Nat → Int32) → (Nat → Int32) → (Nat → Int32) → (Nat → Int32) → (Nat → Int32) → (Nat → Int32) → Prop) (post : (Nat → Int32) → (Nat → Int32) → (Nat → Int32) → (Nat → Int32) → (Nat → Int32) → (Nat → Int32) → (Nat → Int32) → Prop) (x1 : Int32) (x2 : Int32) (iv : Nat → Int32) (g_elements : Nat → Int32) (g_ranks : Nat → Int32) (g_signOf : Nat → Int32) (g_order : Nat → Int32) (g_sizes : Nat → Int32) (g_sheet : Nat → Int32) : Prop := ∀ z1 : Int32, z1 = x2 + 1 → K2 x1 z1 iv g_elements g_ranks g_signOf g_order g_sizes g_sheet
def w113_L2 (post : (Nat → Int32) → (Nat → Int32) → (Nat → Int32) → (Nat → Int32) → (Nat → Int32) → (Nat → Int32) → (Nat → Int32) → Prop) : Nat → Int32 → Int32 → (Nat → Int32) → (Nat → Int32) → (Nat → Int32) → (Nat → Int32) → (Nat → Int32) → (Nat → Int32) → (Nat → Int32) → Prop
  | 0 => fun _ _ _ _ _ _ _ _ _ => False
  | k + 1 => fun x1 x2 iv g_elements g_ranks g_signOf g_order g_sizes g_sheet => (4096 ≤ x2 → mpu_wp (fun v2 v3 => post v2 g_elements g_ranks g_signOf g_order g_sizes v3) 10 iv g_sheet) ∧ (¬ 4096 ≤ x2 → vp_in x2 4096 ∧ (w71_wp (fun r17 v4 v5 => (r17 < (g_order (Int32.toNatClampNeg x2)) → w113_L67 (w113_L2 post k) post x1 x2 v4 v5 g_ranks g_signOf g_order g_sizes g_sheet) ∧ (¬ r17 < (g_order (Int32.toNatClampNeg x2)) → vp_in x2 4096 ∧ (vp_in (g_order (Int32.toNatClampNeg x2)) 4096 ∧ (vp_in x1 26 ∧ ((¬ (g_sizes (Int32.toNatClampNeg (g_order (Int32.toNatClampNeg x2)))) = (g_ranks (Int32.toNatClampNeg x1)) → w113_L67 (w113_L2 post k) post x1 x2 v4 v5 g_ranks g_signOf g_order g_sizes g_sheet) ∧ ((g_sizes (Int32.toNatClampNeg (g_order (Int32.toNatClampNeg x2)))) = (g_ranks (Int32.toNatClampNeg x1)) → vp_in x2 4096 ∧ (vp_in ((4096 * x1) + (g_order (Int32.toNatClampNeg x2))) 106496 ∧ (w112_wp (fun r61  => mpu_wp (fun v6 v7 => w113_L67 (w113_L2 post k) post x1 x2 v6 v5 g_ranks g_signOf g_order g_sizes v7) r61 v4 g_sheet) (g_signOf (Int32.toNatClampNeg ((4096 * x1) + (g_order (Int32.toNatClampNeg x2))))))))))))) x1 iv g_elements))
def w113_wp (post : (Nat → Int32) → (Nat → Int32) → (Nat → Int32) → (Nat → Int32) → (Nat → Int32) → (Nat → Int32) → (Nat → Int32) → Prop) (a1x : Int32) (iv : Nat → Int32) (g_elements : Nat → Int32) (g_ranks : Nat → Int32) (g_signOf : Nat → Int32) (g_order : Nat → Int32) (g_sizes : Nat → Int32) (g_sheet : Nat → Int32) : Prop := ∃ j2, w113_L2 post j2 a1x 0 iv g_elements g_ranks g_signOf g_order g_sizes g_sheet
set_option maxHeartbeats 8000000 in
set_option maxRecDepth 100000 in
theorem w113_met (l : Launch) (dC : Nat → ClassId) (dI : Nat → Nat → Nat) (sz : Nat) (h0 : Nat) (rf : Nat → Nat) (c_elements : ClassId) (c_ranks : ClassId) (c_signOf : ClassId) (c_order : ClassId) (c_sizes : ClassId) (c_sheet : ClassId) (a1x : Int32) (iv : Nat → Int32) (g_elements : Nat → Int32) (g_ranks : Nat → Int32) (g_signOf : Nat → Int32) (g_order : Nat → Int32) (g_sizes : Nat → Int32) (g_sheet : Nat → Int32) (post : (Nat → Int32) → (Nat → Int32) → (Nat → Int32) → (Nat → Int32) → (Nat → Int32) → (Nat → Int32) → (Nat → Int32) → Prop) (hw : w113_wp post a1x iv g_elements g_ranks g_signOf g_order g_sizes g_sheet) : Met l px_y113 px_s113 ({ frames := 2, cells := 0, slots := 0, locals := 44 }) (va_Pc [.ref h0, .int a1x] (fun U => U.heap.size = sz ∧ va_P (dC, dI) vwCl [(h0, .inr (8, px_mf rf iv)), (rf 19, .inl (c_elements, 26, .inl g_elements)), (rf 21, .inl (c_ranks, 26, .inl g_ranks)), (rf 26, .inl (c_signOf, 106496, .inl g_signOf)), (rf 27, .inl (c_order, 4096, .inl g_order)), (rf 28, .inl (c_sizes, 4096, .inl g_sizes)), (rf 46, .inl (c_sheet, 65536, .inl g_sheet))] U.heap ∧ va_K (dC, dI) vwCl [(c_elements, .int), (c_ranks, .int), (c_signOf, .byte), (c_order, .int), (c_sizes, .int), (c_sheet, .byte)] U ∧ va_D (fun _ => True) [(h0, .inr (8, px_mf rf iv)), (rf 19, .inl (c_elements, 26, .inl g_elements)), (rf 21, .inl (c_ranks, 26, .inl g_ranks)), (rf 26, .inl (c_signOf, 106496, .inl g_signOf)), (rf 27, .inl (c_order, 4096, .inl g_order)), (rf 28, .inl (c_sizes, 4096, .inl g_sizes)), (rf 46, .inl (c_sheet, 65536, .inl g_sheet))] ∧ px_N U)) (va_Qv (fun (u : (Nat → Int32) × (Nat → Int32) × (Nat → Int32) × (Nat → Int32) × (Nat → Int32) × (Nat → Int32) × (Nat → Int32)) => post u.1 u.2.1 u.2.2.1 u.2.2.2.1 u.2.2.2.2.1 u.2.2.2.2.2.1 u.2.2.2.2.2.2) (fun (u : (Nat → Int32) × (Nat → Int32) × (Nat → Int32) × (Nat → Int32) × (Nat → Int32) × (Nat → Int32) × (Nat → Int32)) (t : State) => va_P (dC, dI) vwCl [(h0, .inr (8, px_mf rf u.1)), (rf 19, .inl (c_elements, 26, .inl u.2.1)), (rf 21, .inl (c_ranks, 26, .inl u.2.2.1)), (rf 26, .inl (c_signOf, 106496, .inl u.2.2.2.1)), (rf 27, .inl (c_order, 4096, .inl u.2.2.2.2.1)), (rf 28, .inl (c_sizes, 4096, .inl u.2.2.2.2.2.1)), (rf 46, .inl (c_sheet, 65536, .inl u.2.2.2.2.2.2))] t.heap ∧ va_K (dC, dI) vwCl [(c_elements, .int), (c_ranks, .int), (c_signOf, .byte), (c_order, .int), (c_sizes, .int), (c_sheet, .byte)] t ∧ va_D (va_A [(h0, .inr (8, px_mf rf iv)), (rf 19, .inl (c_elements, 26, .inl g_elements)), (rf 21, .inl (c_ranks, 26, .inl g_ranks)), (rf 26, .inl (c_signOf, 106496, .inl g_signOf)), (rf 27, .inl (c_order, 4096, .inl g_order)), (rf 28, .inl (c_sizes, 4096, .inl g_sizes)), (rf 46, .inl (c_sheet, 65536, .inl g_sheet))] sz) [(h0, .inr (8, px_mf rf u.1)), (rf 19, .inl (c_elements, 26, .inl u.2.1)), (rf 21, .inl (c_ranks, 26, .inl u.2.2.1)), (rf 26, .inl (c_signOf, 106496, .inl u.2.2.2.1)), (rf 27, .inl (c_order, 4096, .inl u.2.2.2.2.1)), (rf 28, .inl (c_sizes, 4096, .inl u.2.2.2.2.2.1)), (rf 46, .inl (c_sheet, 65536, .inl u.2.2.2.2.2.2))]) (va_A [(h0, .inr (8, px_mf rf iv)), (rf 19, .inl (c_elements, 26, .inl g_elements)), (rf 21, .inl (c_ranks, 26, .inl g_ranks)), (rf 26, .inl (c_signOf, 106496, .inl g_signOf)), (rf 27, .inl (c_order, 4096, .inl g_order)), (rf 28, .inl (c_sizes, 4096, .inl g_sizes)), (rf 46, .inl (c_sheet, 65536, .inl g_sheet))] sz)) 0 0 (va_A [(h0, .inr (8, px_mf rf iv)), (rf 19, .inl (c_elements, 26, .inl g_elements)), (rf 21, .inl (c_ranks, 26, .inl g_ranks)), (rf 26, .inl (c_signOf, 106496, .inl g_signOf)), (rf 27, .inl (c_order, 4096, .inl g_order)), (rf 28, .inl (c_sizes, 4096, .inl g_sizes)), (rf 46, .inl (c_sheet, 65536, .inl g_sheet))] sz) := by
  refine Met.ofW (cc := prog_15_method_84_code) (maxL := 3) (ret := none) (by decide) rfl ?_
  intro p e s m args below meth c s₁ B hml hv
  obtain ⟨rfl, hsz, hP, hK, hD0, hN⟩ := hv
  have hx := B.exec
  have hb := B.bytes
  have hr := B.returns
  have htw : ∀ w ∈ px_all, w.before _ s = true := fun w h => atoms_spec (ws := px_s113) B.pre w (List.mem_cons_of_mem _ h)
  have hown : s.vm.findClass "MatroidDeskModel" = some m.cls := findClass_of_methodNamed B.named
  have hlocks := B.notSynchronized
  subst hsz
  have hD := hD0.self (sz := s.heap.size)
  generalize hAe : va_A [(h0, .inr (8, px_mf rf iv)), (rf 19, .inl (c_elements, 26, .inl g_elements)), (rf 21, .inl (c_ranks, 26, .inl g_ranks)), (rf 26, .inl (c_signOf, 106496, .inl g_signOf)), (rf 27, .inl (c_order, 4096, .inl g_order)), (rf 28, .inl (c_sizes, 4096, .inl g_sizes)), (rf 46, .inl (c_sheet, 65536, .inl g_sheet))] s.heap.size = A at hD ⊢
  have hA : ∀ q : Nat, s.heap.size ≤ q → A q := fun q h => by rw [← hAe]; exact Or.inr h
  have hS : va_S A s.heap s.heap [] := va_S.rf
  have hP : va_P (dC, dI) vwCl [(h0, .inr (8, px_mf rf iv)), (rf 19, .inl (c_elements, 26, .inl g_elements)), (rf 21, .inl (c_ranks, 26, .inl g_ranks)), (rf 26, .inl (c_signOf, 106496, .inl g_signOf)), (rf 27, .inl (c_order, 4096, .inl g_order)), (rf 28, .inl (c_sizes, 4096, .inl g_sizes)), (rf 46, .inl (c_sheet, 65536, .inl g_sheet))] s.heap := hP
  have hl := lv_entry ([.ref h0, .int a1x]) (n := 3) (Nat.le_of_ble_eq_true rfl)
  rw [lg_entry_eq]
  generalize (lg_sl ([.ref h0, .int a1x]) ++ List.replicate (3 - (lg_sl ([.ref h0, .int a1x])).length) Slot.unset).toArray = ls at hl ⊢
  have hl : lv_has ls 3 [(0, .ref h0), (1, .int a1x)] := hl
  generalize hQ : MQ _ _ _ _ _ _ _ = Q
  have S2 : ∀ (k2 : Nat) (x1 : Int32) (x2 : Int32) (iv : Nat → Int32) (g_elements : Nat → Int32) (g_ranks : Nat → Int32) (g_signOf : Nat → Int32) (g_order : Nat → Int32) (g_sizes : Nat → Int32) (g_sheet : Nat → Int32) (H : Heap) (locs : List Loc) (ls : Array Slot), va_P (dC, dI) vwCl [(h0, .inr (8, px_mf rf iv)), (rf 19, .inl (c_elements, 26, .inl g_elements)), (rf 21, .inl (c_ranks, 26, .inl g_ranks)), (rf 26, .inl (c_signOf, 106496, .inl g_signOf)), (rf 27, .inl (c_order, 4096, .inl g_order)), (rf 28, .inl (c_sizes, 4096, .inl g_sizes)), (rf 46, .inl (c_sheet, 65536, .inl g_sheet))] H → va_D A [(h0, .inr (8, px_mf rf iv)), (rf 19, .inl (c_elements, 26, .inl g_elements)), (rf 21, .inl (c_ranks, 26, .inl g_ranks)), (rf 26, .inl (c_signOf, 106496, .inl g_signOf)), (rf 27, .inl (c_order, 4096, .inl g_order)), (rf 28, .inl (c_sizes, 4096, .inl g_sizes)), (rf 46, .inl (c_sheet, 65536, .inl g_sheet))] → va_S A s.heap H locs → lv_has ls 3 [(0, .ref h0), (1, .int x1), (2, .int x2)] → w113_L2 post k2 x1 x2 iv g_elements g_ranks g_signOf g_order g_sizes g_sheet → W p l e (headSpec px_s113 ({ frames := 2, cells := 0, slots := 0, locals := 44 })).room s m ([.ref h0, .int a1x]).toArray below meth c H locs 0 0 Q (F0 m 2 ls []) := by
    intro k2
    induction k2 with
    | zero => intro x1 x2 iv g_elements g_ranks g_signOf g_order g_sizes g_sheet H locs ls hP hD hS hl hw; exact False.elim hw
    | succ k2 ih2 =>
      have S67 : ∀ (x1 : Int32) (x2 : Int32) (iv : Nat → Int32) (g_elements : Nat → Int32) (g_ranks : Nat → Int32) (g_signOf : Nat → Int32) (g_order : Nat → Int32) (g_sizes : Nat → Int32) (g_sheet : Nat → Int32) (H : Heap) (locs : List Loc) (ls : Array Slot), va_P (dC, dI) vwCl [(h0, .inr (8, px_mf rf iv)), (rf 19, .inl (c_elements, 26, .inl g_elements)), (rf 21, .inl (c_ranks, 26, .inl g_ranks)), (rf 26, .inl (c_signOf, 106496, .inl g_signOf)), (rf 27, .inl (c_order, 4096, .inl g_order)), (rf 28, .inl (c_sizes, 4096, .inl g_sizes)), (rf 46, .inl (c_sheet, 65536, .inl g_sheet))] H → va_D A [(h0, .inr (8, px_mf rf iv)), (rf 19, .inl (c_elements, 26, .inl g_elements)), (rf 21, .inl (c_ranks, 26, .inl g_ranks)), (rf 26, .inl (c_signOf, 106496, .inl g_signOf)), (rf 27, .inl (c_order, 4096, .inl g_order)), (rf 28, .inl (c_sizes, 4096, .inl g_sizes)), (rf 46, .inl (c_sheet, 65536, .inl g_sheet))] → va_S A s.heap H locs → lv_has ls 3 [(0, .ref h0), (1, .int x1), (2, .int x2)] → w113_L67 (w113_L2 post k2) post x1 x2 iv g_elements g_ranks g_signOf g_order g_sizes g_sheet → W p l e (headSpec px_s113 ({ frames := 2, cells := 0, slots := 0, locals := 44 })).room s m ([.ref h0, .int a1x]).toArray below meth c H locs 0 0 Q (F0 m 67 ls []) := by
        intro x1 x2 iv g_elements g_ranks g_signOf g_order g_sizes g_sheet H locs ls hP hD hS hl hw
        unfold w113_L67 at hw
        obtain ⟨z1, ez1⟩ : ∃ y : Int32, y = x2 + 1 := ⟨_, rfl⟩
        have hw := hw z1 ez1
        refine lv_iinc (v := z1) (lv' := [(2, .int z1), (0, .ref h0), (1, .int x1)]) hx hb px_d113_67 hl (k := 2) rfl (by rw [ez1]; rfl) (by decide) rfl (fun ls hl => ?_)
        refine lv_goto (tgt := 2) hx hb px_d113_70 (by decide) ?_
        exact ih2 x1 z1 iv g_elements g_ranks g_signOf g_order g_sizes g_sheet H locs ls hP hD hS (lv_sub hl [1, 2, 0] rfl) hw
      intro x1 x2 iv g_elements g_ranks g_signOf g_order g_sizes g_sheet H locs ls hP hD hS hl hw
      unfold w113_L2 at hw
      refine lv_iload_n hx hb px_d113_2 rfl (lv_at hl 2 rfl) ?_
      refine lv_sipush (v := 4096) hx hb px_d113_3 (by decide) ?_
      refine lv_icmp_ge (tgt := 73) hx hb px_d113_6 (by decide) (fun c6 => ?_) (fun c6 => ?_)
      · have hw := hw.1 c6
        refine lv_aload_n hx hb px_d113_73 rfl (lv_at hl 0 rfl) ?_
        refine lv_bipush (v := 10) hx hb px_d113_74 (by decide) ?_
        have hPc := hP.sub (ws' := [(h0, .inr (8, px_mf rf iv)), (rf 46, .inl (c_sheet, 65536, .inl g_sheet))]) [0, 6] rfl
        have hDc := hD.sub (ws' := [(h0, .inr (8, px_mf rf iv)), (rf 46, .inl (c_sheet, 65536, .inl g_sheet))]) [0, 6] (by decide) rfl
        have hKc := hK.sub (tys' := [(c_sheet, .byte)]) [5] rfl
        have hFc := va_free (wc := [(h0, .inr (8, px_mf rf iv)), (rf 46, .inl (c_sheet, 65536, .inl g_sheet))]) hD hS hA [0, 6] rfl
        refine va_callv (va_runV (As := [.int 10]) (rest := []) ⟨hx, hb, hml, hown, htw⟩ (mpu_met l dC dI H.size h0 rf c_sheet 10 iv g_sheet _ hw) (cwV 1 htw (px_gv px_w700 px_w375 px_w376 px_w94 px_g37) rfl rfl rfl (by decide +kernel) ⟨Nat.le_of_ble_eq_true rfl, Nat.le_of_ble_eq_true rfl⟩) ⟨fun a U g mk q => by obtain ⟨q0, q1, qP, qK, qD, qN⟩ := q; exact ⟨q0, q1, qP, va_K.moved (u := U) (U := U.calling g mk a) (Vm.Alike.refl U.vm) qK, qD, qN.same rfl⟩, va_recv hK hP (ci := 8) (q0 := 0) rfl rfl, fun U hU hW => ⟨rfl, by rw [hU], by rw [hU]; exact hPc, va_K.moved hW.alike hKc, hDc.weaken (fun _ _ _ _ => trivial), hN.warm hW⟩⟩ rfl rfl hl.1 rfl (lv_room (Nat.le_of_ble_eq_true rfl)) px_d113_76 ⟨(Nat.le_of_ble_eq_true rfl), (Nat.le_of_ble_eq_true rfl)⟩) hS (fun q _ h => hFc q h) hFc (fun u t H1 locs ht hvm hw hB hz1 hk1 hS => ?_)
        obtain ⟨v2, v3⟩ := u
        obtain ⟨hP1, hK1, hD1⟩ := hB
        rw [ht] at hP1
        have hK1 := va_K.moved hvm.symm hK1
        obtain ⟨hP, hD⟩ := va_join (wr := [(rf 19, .inl (c_elements, 26, .inl g_elements)), (rf 21, .inl (c_ranks, 26, .inl g_ranks)), (rf 26, .inl (c_signOf, 106496, .inl g_signOf)), (rf 27, .inl (c_order, 4096, .inl g_order)), (rf 28, .inl (c_sizes, 4096, .inl g_sizes))]) (w1 := [(h0, .inr (8, px_mf rf v2)), (rf 46, .inl (c_sheet, 65536, .inl v3))]) hP hD [0, 6] [1, 2, 3, 4, 5] rfl rfl (by decide) (by decide) hk1 hFc hP1 hD1
        generalize H1 = H at hP hS ⊢
        have hP : va_P (dC, dI) vwCl [(rf 19, .inl (c_elements, 26, .inl g_elements)), (rf 21, .inl (c_ranks, 26, .inl g_ranks)), (rf 26, .inl (c_signOf, 106496, .inl g_signOf)), (rf 27, .inl (c_order, 4096, .inl g_order)), (rf 28, .inl (c_sizes, 4096, .inl g_sizes)), (h0, .inr (8, px_mf rf v2)), (rf 46, .inl (c_sheet, 65536, .inl v3))] H := hP
        have hD : va_D A [(rf 19, .inl (c_elements, 26, .inl g_elements)), (rf 21, .inl (c_ranks, 26, .inl g_ranks)), (rf 26, .inl (c_signOf, 106496, .inl g_signOf)), (rf 27, .inl (c_order, 4096, .inl g_order)), (rf 28, .inl (c_sizes, 4096, .inl g_sizes)), (h0, .inr (8, px_mf rf v2)), (rf 46, .inl (c_sheet, 65536, .inl v3))] := hD
        have hP := hP.sub (ws' := [(h0, .inr (8, px_mf rf v2)), (rf 19, .inl (c_elements, 26, .inl g_elements)), (rf 21, .inl (c_ranks, 26, .inl g_ranks)), (rf 26, .inl (c_signOf, 106496, .inl g_signOf)), (rf 27, .inl (c_order, 4096, .inl g_order)), (rf 28, .inl (c_sizes, 4096, .inl g_sizes)), (rf 46, .inl (c_sheet, 65536, .inl v3))]) [5, 0, 1, 2, 3, 4, 6] rfl
        have hD := hD.sub (ws' := [(h0, .inr (8, px_mf rf v2)), (rf 19, .inl (c_elements, 26, .inl g_elements)), (rf 21, .inl (c_ranks, 26, .inl g_ranks)), (rf 26, .inl (c_signOf, 106496, .inl g_signOf)), (rf 27, .inl (c_order, 4096, .inl g_order)), (rf 28, .inl (c_sizes, 4096, .inl g_sizes)), (rf 46, .inl (c_sheet, 65536, .inl v3))]) [5, 0, 1, 2, 3, 4, 6] (by decide) rfl
        rw [← hQ]
        exact W.vret hx hb hr (fun t ht hW => ⟨⟨(v2, g_elements, g_ranks, g_signOf, g_order, g_sizes, v3), rfl, hw, by rw [ht]; exact hP, va_K.moved hW.alike hK, hD⟩, hS.F ht⟩) hS.2.2 px_d113_79
      · have hw := hw.2 c6
        refine lv_aload_n hx hb px_d113_9 rfl (lv_at hl 0 rfl) ?_
        refine va_get (D := (dC, dI)) (ci := 8) (v := .ref (rf 27)) (C := "MatroidDeskModel") (T := px_T8) (N := 53) hx hb htw px_in8 hown hK hP 0 rfl rfl 27 (by decide) (htw _ px_w512) (fun _ h9 => h9) rfl px_d113_10 ?_
        refine lv_iload_n hx hb px_d113_13 rfl (lv_at hl 2 rfl) ?_
        obtain ⟨hi14, hw⟩ := hw
        refine va_iald hx hb hK hP 4 3 rfl rfl hi14 px_d113_14 ?_
        refine lv_aload_n hx hb px_d113_15 rfl (lv_at hl 0 rfl) ?_
        refine lv_iload_n hx hb px_d113_16 rfl (lv_at hl 1 rfl) ?_
        have hPc := hP.sub (ws' := [(h0, .inr (8, px_mf rf iv)), (rf 19, .inl (c_elements, 26, .inl g_elements))]) [0, 1] rfl
        have hDc := hD.sub (ws' := [(h0, .inr (8, px_mf rf iv)), (rf 19, .inl (c_elements, 26, .inl g_elements))]) [0, 1] (by decide) rfl
        have hKc := hK.sub (tys' := [(c_elements, .int)]) [0] rfl
        have hFc := va_free (wc := [(h0, .inr (8, px_mf rf iv)), (rf 19, .inl (c_elements, 26, .inl g_elements))]) hD hS hA [0, 1] rfl
        refine va_calli (va_runV (As := [.int x1]) (rest := [.int (g_order (Int32.toNatClampNeg x2))]) ⟨hx, hb, hml, hown, htw⟩ (w71_met l dC dI H.size h0 rf c_elements x1 iv g_elements _ hw) (cwV 1 htw (px_gv px_w565 px_w556 px_w557 px_w94 px_g71) rfl rfl rfl (by decide +kernel) ⟨Nat.le_of_ble_eq_true rfl, Nat.le_of_ble_eq_true rfl⟩) ⟨fun a U g mk q => by obtain ⟨q0, q1, qP, qK, qD, qN⟩ := q; exact ⟨q0, q1, qP, va_K.moved (u := U) (U := U.calling g mk a) (Vm.Alike.refl U.vm) qK, qD, qN.same rfl⟩, va_recv hK hP (ci := 8) (q0 := 0) rfl rfl, fun U hU hW => ⟨rfl, by rw [hU], by rw [hU]; exact hPc, va_K.moved hW.alike hKc, hDc.weaken (fun _ _ _ _ => trivial), hN.warm hW⟩⟩ rfl rfl hl.1 rfl (lv_room (Nat.le_of_ble_eq_true rfl)) px_d113_17 ⟨(Nat.le_of_ble_eq_true rfl), (Nat.le_of_ble_eq_true rfl)⟩) hS (fun q _ h => hFc q h) hFc (fun r17 u t H1 locs ht hvm hw hB hz1 hk1 hS => ?_)
        obtain ⟨v4, v5⟩ := u
        obtain ⟨hP1, hK1, hD1⟩ := hB
        rw [ht] at hP1
        have hK1 := va_K.moved hvm.symm hK1
        obtain ⟨hP, hD⟩ := va_join (wr := [(rf 21, .inl (c_ranks, 26, .inl g_ranks)), (rf 26, .inl (c_signOf, 106496, .inl g_signOf)), (rf 27, .inl (c_order, 4096, .inl g_order)), (rf 28, .inl (c_sizes, 4096, .inl g_sizes)), (rf 46, .inl (c_sheet, 65536, .inl g_sheet))]) (w1 := [(h0, .inr (8, px_mf rf v4)), (rf 19, .inl (c_elements, 26, .inl v5))]) hP hD [0, 1] [2, 3, 4, 5, 6] rfl rfl (by decide) (by decide) hk1 hFc hP1 hD1
        generalize H1 = H at hP hS ⊢
        have hP : va_P (dC, dI) vwCl [(rf 21, .inl (c_ranks, 26, .inl g_ranks)), (rf 26, .inl (c_signOf, 106496, .inl g_signOf)), (rf 27, .inl (c_order, 4096, .inl g_order)), (rf 28, .inl (c_sizes, 4096, .inl g_sizes)), (rf 46, .inl (c_sheet, 65536, .inl g_sheet)), (h0, .inr (8, px_mf rf v4)), (rf 19, .inl (c_elements, 26, .inl v5))] H := hP
        have hD : va_D A [(rf 21, .inl (c_ranks, 26, .inl g_ranks)), (rf 26, .inl (c_signOf, 106496, .inl g_signOf)), (rf 27, .inl (c_order, 4096, .inl g_order)), (rf 28, .inl (c_sizes, 4096, .inl g_sizes)), (rf 46, .inl (c_sheet, 65536, .inl g_sheet)), (h0, .inr (8, px_mf rf v4)), (rf 19, .inl (c_elements, 26, .inl v5))] := hD
        have hP := hP.sub (ws' := [(h0, .inr (8, px_mf rf v4)), (rf 19, .inl (c_elements, 26, .inl v5)), (rf 21, .inl (c_ranks, 26, .inl g_ranks)), (rf 26, .inl (c_signOf, 106496, .inl g_signOf)), (rf 27, .inl (c_order, 4096, .inl g_order)), (rf 28, .inl (c_sizes, 4096, .inl g_sizes)), (rf 46, .inl (c_sheet, 65536, .inl g_sheet))]) [5, 6, 0, 1, 2, 3, 4] rfl
        have hD := hD.sub (ws' := [(h0, .inr (8, px_mf rf v4)), (rf 19, .inl (c_elements, 26, .inl v5)), (rf 21, .inl (c_ranks, 26, .inl g_ranks)), (rf 26, .inl (c_signOf, 106496, .inl g_signOf)), (rf 27, .inl (c_order, 4096, .inl g_order)), (rf 28, .inl (c_sizes, 4096, .inl g_sizes)), (rf 46, .inl (c_sheet, 65536, .inl g_sheet))]) [5, 6, 0, 1, 2, 3, 4] (by decide) rfl
        refine lv_icmp_gt (tgt := 67) hx hb px_d113_20 (by decide) (fun c20 => ?_) (fun c20 => ?_)
        · have hw := hw.1 c20
          exact S67 x1 x2 v4 v5 g_ranks g_signOf g_order g_sizes g_sheet H locs ls hP hD hS (lv_sub hl [0, 1, 2] rfl) hw
        · have hw := hw.2 c20
          refine lv_aload_n hx hb px_d113_23 rfl (lv_at hl 0 rfl) ?_
          refine va_get (D := (dC, dI)) (ci := 8) (v := .ref (rf 28)) (C := "MatroidDeskModel") (T := px_T8) (N := 53) hx hb htw px_in8 hown hK hP 0 rfl rfl 28 (by decide) (htw _ px_w513) (fun _ h9 => h9) rfl px_d113_24 ?_
          refine lv_aload_n hx hb px_d113_27 rfl (lv_at hl 0 rfl) ?_
          refine va_get (D := (dC, dI)) (ci := 8) (v := .ref (rf 27)) (C := "MatroidDeskModel") (T := px_T8) (N := 53) hx hb htw px_in8 hown hK hP 0 rfl rfl 27 (by decide) (htw _ px_w512) (fun _ h9 => h9) rfl px_d113_28 ?_
          refine lv_iload_n hx hb px_d113_31 rfl (lv_at hl 2 rfl) ?_
          obtain ⟨hi32, hw⟩ := hw
          refine va_iald hx hb hK hP 4 3 rfl rfl hi32 px_d113_32 ?_
          obtain ⟨hi33, hw⟩ := hw
          refine va_iald hx hb hK hP 5 4 rfl rfl hi33 px_d113_33 ?_
          refine lv_aload_n hx hb px_d113_34 rfl (lv_at hl 0 rfl) ?_
          refine va_get (D := (dC, dI)) (ci := 8) (v := .ref (rf 21)) (C := "MatroidDeskModel") (T := px_T8) (N := 53) hx hb htw px_in8 hown hK hP 0 rfl rfl 21 (by decide) (htw _ px_w504) (fun _ h9 => h9) rfl px_d113_35 ?_
          refine lv_iload_n hx hb px_d113_38 rfl (lv_at hl 1 rfl) ?_
          obtain ⟨hi39, hw⟩ := hw
          refine va_iald hx hb hK hP 2 1 rfl rfl hi39 px_d113_39 ?_
          refine lv_icmp_ne (tgt := 67) hx hb px_d113_40 (by decide) (fun c40 => ?_) (fun c40 => ?_)
          · have hw := hw.1 c40
            exact S67 x1 x2 v4 v5 g_ranks g_signOf g_order g_sizes g_sheet H locs ls hP hD hS (lv_sub hl [0, 1, 2] rfl) hw
          · have hw := hw.2 c40
            refine lv_aload_n hx hb px_d113_43 rfl (lv_at hl 0 rfl) ?_
            refine lv_aload_n hx hb px_d113_44 rfl (lv_at hl 0 rfl) ?_
            refine va_get (D := (dC, dI)) (ci := 8) (v := .ref (rf 26)) (C := "MatroidDeskModel") (T := px_T8) (N := 53) hx hb htw px_in8 hown hK hP 0 rfl rfl 26 (by decide) (htw _ px_w511) (fun _ h9 => h9) rfl px_d113_45 ?_
            refine lv_sipush (v := 4096) hx hb px_d113_48 (by decide) ?_
            refine lv_iload_n hx hb px_d113_51 rfl (lv_at hl 1 rfl) ?_
            refine lv_imul hx hb px_d113_52 ?_
            refine lv_aload_n hx hb px_d113_53 rfl (lv_at hl 0 rfl) ?_
            refine va_get (D := (dC, dI)) (ci := 8) (v := .ref (rf 27)) (C := "MatroidDeskModel") (T := px_T8) (N := 53) hx hb htw px_in8 hown hK hP 0 rfl rfl 27 (by decide) (htw _ px_w512) (fun _ h9 => h9) rfl px_d113_54 ?_
            refine lv_iload_n hx hb px_d113_57 rfl (lv_at hl 2 rfl) ?_
            obtain ⟨hi58, hw⟩ := hw
            refine va_iald hx hb hK hP 4 3 rfl rfl hi58 px_d113_58 ?_
            refine lv_iadd hx hb px_d113_59 ?_
            obtain ⟨hi60, hw⟩ := hw
            refine va_bald hx hb hK hP 3 2 rfl rfl hi60 px_d113_60 ?_
            have hPc := hP.sub (ws' := []) [] rfl
            have hDc := hD.sub (ws' := []) [] (by decide) rfl
            have hKc := hK.sub (tys' := []) [] rfl
            have hFc := va_free (wc := []) hD hS hA [] rfl
            refine va_calli (va_runS (As := [.int (g_signOf (Int32.toNatClampNeg ((4096 * x1) + (g_order (Int32.toNatClampNeg x2)))))]) (rest := [.ref h0]) ⟨hx, hb, hml, hown, htw⟩ (w112_met l dC dI H.size (g_signOf (Int32.toNatClampNeg ((4096 * x1) + (g_order (Int32.toNatClampNeg x2))))) _ hw) (cwS 1 htw (px_gs px_w733 px_w729 px_w94 px_g112) rfl rfl rfl (by decide +kernel) ⟨Nat.le_of_ble_eq_true rfl, Nat.le_of_ble_eq_true rfl⟩) ⟨fun a U g mk q => by obtain ⟨q0, q1, qP, qK, qD, qN⟩ := q; exact ⟨q0, q1, qP, va_K.moved (u := U) (U := U.calling g mk a) (Vm.Alike.refl U.vm) qK, qD, qN.same rfl⟩, fun U hU hW => ⟨rfl, by rw [hU], by rw [hU]; exact hPc, va_K.moved hW.alike hKc, hDc.weaken (fun _ _ _ _ => trivial), hN.warm hW⟩⟩ rfl rfl hl.1 rfl (lv_room (Nat.le_of_ble_eq_true rfl)) px_d113_61 ⟨(Nat.le_of_ble_eq_true rfl), (Nat.le_of_ble_eq_true rfl)⟩) hS (fun q _ h => hFc q h) hFc (fun r61 u t H1 locs ht hvm hw hB hz1 hk1 hS => ?_)
            obtain ⟨hP1, hK1, hD1⟩ := hB
            rw [ht] at hP1
            have hK1 := va_K.moved hvm.symm hK1
            obtain ⟨hP, hD⟩ := va_join (wr := [(h0, .inr (8, px_mf rf v4)), (rf 19, .inl (c_elements, 26, .inl v5)), (rf 21, .inl (c_ranks, 26, .inl g_ranks)), (rf 26, .inl (c_signOf, 106496, .inl g_signOf)), (rf 27, .inl (c_order, 4096, .inl g_order)), (rf 28, .inl (c_sizes, 4096, .inl g_sizes)), (rf 46, .inl (c_sheet, 65536, .inl g_sheet))]) (w1 := []) hP hD [] [0, 1, 2, 3, 4, 5, 6] rfl rfl (by decide) (by decide) hk1 hFc hP1 hD1
            generalize H1 = H at hP hS ⊢
            have hP : va_P (dC, dI) vwCl [(h0, .inr (8, px_mf rf v4)), (rf 19, .inl (c_elements, 26, .inl v5)), (rf 21, .inl (c_ranks, 26, .inl g_ranks)), (rf 26, .inl (c_signOf, 106496, .inl g_signOf)), (rf 27, .inl (c_order, 4096, .inl g_order)), (rf 28, .inl (c_sizes, 4096, .inl g_sizes)), (rf 46, .inl (c_sheet, 65536, .inl g_sheet))] H := hP
            have hD : va_D A [(h0, .inr (8, px_mf rf v4)), (rf 19, .inl (c_elements, 26, .inl v5)), (rf 21, .inl (c_ranks, 26, .inl g_ranks)), (rf 26, .inl (c_signOf, 106496, .inl g_signOf)), (rf 27, .inl (c_order, 4096, .inl g_order)), (rf 28, .inl (c_sizes, 4096, .inl g_sizes)), (rf 46, .inl (c_sheet, 65536, .inl g_sheet))] := hD
            have hPc := hP.sub (ws' := [(h0, .inr (8, px_mf rf v4)), (rf 46, .inl (c_sheet, 65536, .inl g_sheet))]) [0, 6] rfl
            have hDc := hD.sub (ws' := [(h0, .inr (8, px_mf rf v4)), (rf 46, .inl (c_sheet, 65536, .inl g_sheet))]) [0, 6] (by decide) rfl
            have hKc := hK.sub (tys' := [(c_sheet, .byte)]) [5] rfl
            have hFc := va_free (wc := [(h0, .inr (8, px_mf rf v4)), (rf 46, .inl (c_sheet, 65536, .inl g_sheet))]) hD hS hA [0, 6] rfl
            refine va_callv (va_runV (As := [.int r61]) (rest := []) ⟨hx, hb, hml, hown, htw⟩ (mpu_met l dC dI H.size h0 rf c_sheet r61 v4 g_sheet _ hw) (cwV 1 htw (px_gv px_w700 px_w375 px_w376 px_w94 px_g37) rfl rfl rfl (by decide +kernel) ⟨Nat.le_of_ble_eq_true rfl, Nat.le_of_ble_eq_true rfl⟩) ⟨fun a U g mk q => by obtain ⟨q0, q1, qP, qK, qD, qN⟩ := q; exact ⟨q0, q1, qP, va_K.moved (u := U) (U := U.calling g mk a) (Vm.Alike.refl U.vm) qK, qD, qN.same rfl⟩, va_recv hK hP (ci := 8) (q0 := 0) rfl rfl, fun U hU hW => ⟨rfl, by rw [hU], by rw [hU]; exact hPc, va_K.moved hW.alike hKc, hDc.weaken (fun _ _ _ _ => trivial), hN.warm hW⟩⟩ rfl rfl hl.1 rfl (lv_room (Nat.le_of_ble_eq_true rfl)) px_d113_64 ⟨(Nat.le_of_ble_eq_true rfl), (Nat.le_of_ble_eq_true rfl)⟩) hS (fun q _ h => hFc q h) hFc (fun u t H1 locs ht hvm hw hB hz1 hk1 hS => ?_)
            obtain ⟨v6, v7⟩ := u
            obtain ⟨hP1, hK1, hD1⟩ := hB
            rw [ht] at hP1
            have hK1 := va_K.moved hvm.symm hK1
            obtain ⟨hP, hD⟩ := va_join (wr := [(rf 19, .inl (c_elements, 26, .inl v5)), (rf 21, .inl (c_ranks, 26, .inl g_ranks)), (rf 26, .inl (c_signOf, 106496, .inl g_signOf)), (rf 27, .inl (c_order, 4096, .inl g_order)), (rf 28, .inl (c_sizes, 4096, .inl g_sizes))]) (w1 := [(h0, .inr (8, px_mf rf v6)), (rf 46, .inl (c_sheet, 65536, .inl v7))]) hP hD [0, 6] [1, 2, 3, 4, 5] rfl rfl (by decide) (by decide) hk1 hFc hP1 hD1
            generalize H1 = H at hP hS ⊢
            have hP : va_P (dC, dI) vwCl [(rf 19, .inl (c_elements, 26, .inl v5)), (rf 21, .inl (c_ranks, 26, .inl g_ranks)), (rf 26, .inl (c_signOf, 106496, .inl g_signOf)), (rf 27, .inl (c_order, 4096, .inl g_order)), (rf 28, .inl (c_sizes, 4096, .inl g_sizes)), (h0, .inr (8, px_mf rf v6)), (rf 46, .inl (c_sheet, 65536, .inl v7))] H := hP
            have hD : va_D A [(rf 19, .inl (c_elements, 26, .inl v5)), (rf 21, .inl (c_ranks, 26, .inl g_ranks)), (rf 26, .inl (c_signOf, 106496, .inl g_signOf)), (rf 27, .inl (c_order, 4096, .inl g_order)), (rf 28, .inl (c_sizes, 4096, .inl g_sizes)), (h0, .inr (8, px_mf rf v6)), (rf 46, .inl (c_sheet, 65536, .inl v7))] := hD
            have hP := hP.sub (ws' := [(h0, .inr (8, px_mf rf v6)), (rf 19, .inl (c_elements, 26, .inl v5)), (rf 21, .inl (c_ranks, 26, .inl g_ranks)), (rf 26, .inl (c_signOf, 106496, .inl g_signOf)), (rf 27, .inl (c_order, 4096, .inl g_order)), (rf 28, .inl (c_sizes, 4096, .inl g_sizes)), (rf 46, .inl (c_sheet, 65536, .inl v7))]) [5, 0, 1, 2, 3, 4, 6] rfl
            have hD := hD.sub (ws' := [(h0, .inr (8, px_mf rf v6)), (rf 19, .inl (c_elements, 26, .inl v5)), (rf 21, .inl (c_ranks, 26, .inl g_ranks)), (rf 26, .inl (c_signOf, 106496, .inl g_signOf)), (rf 27, .inl (c_order, 4096, .inl g_order)), (rf 28, .inl (c_sizes, 4096, .inl g_sizes)), (rf 46, .inl (c_sheet, 65536, .inl v7))]) [5, 0, 1, 2, 3, 4, 6] (by decide) rfl
            exact S67 x1 x2 v6 v5 g_ranks g_signOf g_order g_sizes v7 H locs ls hP hD hS (lv_sub hl [0, 1, 2] rfl) hw
  unfold w113_wp at hw
  have hS0 := hS
  obtain ⟨H, hH9⟩ : ∃ z, z = s.heap := ⟨_, rfl⟩
  have hP : va_P (dC, dI) vwCl [(h0, .inr (8, px_mf rf iv)), (rf 19, .inl (c_elements, 26, .inl g_elements)), (rf 21, .inl (c_ranks, 26, .inl g_ranks)), (rf 26, .inl (c_signOf, 106496, .inl g_signOf)), (rf 27, .inl (c_order, 4096, .inl g_order)), (rf 28, .inl (c_sizes, 4096, .inl g_sizes)), (rf 46, .inl (c_sheet, 65536, .inl g_sheet))] H := by rw [hH9]; exact hP
  obtain ⟨locs, hlo9⟩ : ∃ z : List Loc, z = [] := ⟨_, rfl⟩
  have hS : va_S A s.heap H locs := by rw [hH9, hlo9]; exact hS
  suffices hG : W p l e (headSpec px_s113 ({ frames := 2, cells := 0, slots := 0, locals := 44 })).room s m ([.ref h0, .int a1x]).toArray below meth c H locs 0 0 Q (F0 m 0 ls []) by rw [hH9, hlo9] at hG; exact hG
  refine lv_iconst (v := 0) hx hb px_d113_0 (by decide) ?_
  refine lv_istore_n (lv' := [(2, .int 0), (0, .ref h0), (1, .int a1x)]) hx hb px_d113_1 rfl hl (by decide) rfl (fun ls hl => ?_)
  obtain ⟨k9, hw⟩ := hw
  exact S2 k9 a1x 0 iv g_elements g_ranks g_signOf g_order g_sizes g_sheet H locs ls hP hD hS (lv_sub hl [1, 2, 0] rfl) hw

/-! MatroidDeskModel.is(I)Z -/
def w118_L29 (post : Int32 → (Nat → Int32) → (Nat → Int32) → Prop) (x1 : Int32) (y0 : Int32) (iv : Nat → Int32) (g_there : Nat → Int32) : Prop := narrow .boolean (.int y0) = .int y0 ∧ post y0 iv g_there
def w118_L28 (post : Int32 → (Nat → Int32) → (Nat → Int32) → Prop) (x1 : Int32) (iv : Nat → Int32) (g_there : Nat → Int32) : Prop := w118_L29 post x1 0 iv g_there
def w118_wp (post : Int32 → (Nat → Int32) → (Nat → Int32) → Prop) (a1x : Int32) (iv : Nat → Int32) (g_there : Nat → Int32) : Prop := (a1x < 0 → w118_L28 post a1x (va_up iv 49 0) g_there) ∧ (¬ a1x < 0 → (26 ≤ a1x → w118_L28 post a1x (va_up iv 49 0) g_there) ∧ (¬ 26 ≤ a1x → vp_in a1x 26 ∧ (((g_there (Int32.toNatClampNeg a1x)) = 0 → w118_L28 post a1x (va_up iv 49 0) g_there) ∧ (¬ (g_there (Int32.toNatClampNeg a1x)) = 0 → w118_L29 post a1x 1 (va_up iv 49 0) g_there))))
set_option maxHeartbeats 8000000 in
set_option maxRecDepth 100000 in
theorem w118_met (l : Launch) (dC : Nat → ClassId) (dI : Nat → Nat → Nat) (sz : Nat) (h0 : Nat) (rf : Nat → Nat) (c_there : ClassId) (a1x : Int32) (iv : Nat → Int32) (g_there : Nat → Int32) (post : Int32 → (Nat → Int32) → (Nat → Int32) → Prop) (hw : w118_wp post a1x iv g_there) : Met l px_y118 px_s118 ({ frames := 0, cells := 0, slots := 0, locals := 0 }) (va_Pc [.ref h0, .int a1x] (fun U => U.heap.size = sz ∧ va_P (dC, dI) vwCl [(h0, .inr (8, px_mf rf iv)), (rf 18, .inl (c_there, 26, .inl g_there))] U.heap ∧ va_K (dC, dI) vwCl [(c_there, .boolean)] U ∧ va_D (fun _ => True) [(h0, .inr (8, px_mf rf iv)), (rf 18, .inl (c_there, 26, .inl g_there))] ∧ px_N U)) (va_Qi (fun (r : Int32) (u : (Nat → Int32) × (Nat → Int32)) => post r u.1 u.2) (fun (u : (Nat → Int32) × (Nat → Int32)) (t : State) => va_P (dC, dI) vwCl [(h0, .inr (8, px_mf rf u.1)), (rf 18, .inl (c_there, 26, .inl u.2))] t.heap ∧ va_K (dC, dI) vwCl [(c_there, .boolean)] t ∧ va_D (va_A [(h0, .inr (8, px_mf rf iv)), (rf 18, .inl (c_there, 26, .inl g_there))] sz) [(h0, .inr (8, px_mf rf u.1)), (rf 18, .inl (c_there, 26, .inl u.2))]) (va_A [(h0, .inr (8, px_mf rf iv)), (rf 18, .inl (c_there, 26, .inl g_there))] sz)) 0 0 (va_A [(h0, .inr (8, px_mf rf iv)), (rf 18, .inl (c_there, 26, .inl g_there))] sz) := by
  refine Met.ofW (cc := prog_15_method_97_code) (maxL := 2) (ret := (some .boolean)) (by decide) rfl ?_
  intro p e s m args below meth c s₁ B hml hv
  obtain ⟨rfl, hsz, hP, hK, hD0, hN⟩ := hv
  have hx := B.exec
  have hb := B.bytes
  have hr := B.returns
  have htw : ∀ w ∈ px_all, w.before _ s = true := fun w h => atoms_spec (ws := px_s118) B.pre w (List.mem_cons_of_mem _ h)
  have hown : s.vm.findClass "MatroidDeskModel" = some m.cls := findClass_of_methodNamed B.named
  have hlocks := B.notSynchronized
  subst hsz
  have hD := hD0.self (sz := s.heap.size)
  generalize hAe : va_A [(h0, .inr (8, px_mf rf iv)), (rf 18, .inl (c_there, 26, .inl g_there))] s.heap.size = A at hD ⊢
  have hA : ∀ q : Nat, s.heap.size ≤ q → A q := fun q h => by rw [← hAe]; exact Or.inr h
  have hS : va_S A s.heap s.heap [] := va_S.rf
  have hP : va_P (dC, dI) vwCl [(h0, .inr (8, px_mf rf iv)), (rf 18, .inl (c_there, 26, .inl g_there))] s.heap := hP
  have hl := lv_entry ([.ref h0, .int a1x]) (n := 2) (Nat.le_of_ble_eq_true rfl)
  rw [lg_entry_eq]
  generalize (lg_sl ([.ref h0, .int a1x]) ++ List.replicate (2 - (lg_sl ([.ref h0, .int a1x])).length) Slot.unset).toArray = ls at hl ⊢
  have hl : lv_has ls 2 [(0, .ref h0), (1, .int a1x)] := hl
  generalize hQ : MQ _ _ _ _ _ _ _ = Q
  have S29 : ∀ (x1 : Int32) (y0 : Int32) (iv : Nat → Int32) (g_there : Nat → Int32) (H : Heap) (locs : List Loc) (ls : Array Slot), va_P (dC, dI) vwCl [(h0, .inr (8, px_mf rf iv)), (rf 18, .inl (c_there, 26, .inl g_there))] H → va_D A [(h0, .inr (8, px_mf rf iv)), (rf 18, .inl (c_there, 26, .inl g_there))] → va_S A s.heap H locs → lv_has ls 2 [(0, .ref h0), (1, .int x1)] → w118_L29 post x1 y0 iv g_there → W p l e (headSpec px_s118 ({ frames := 0, cells := 0, slots := 0, locals := 0 })).room s m ([.ref h0, .int a1x]).toArray below meth c H locs 0 0 Q (F0 m 29 ls [.int y0]) := by
    intro x1 y0 iv g_there H locs ls hP hD hS hl hw
    unfold w118_L29 at hw
    obtain ⟨hz9, hw⟩ := hw
    rw [← hQ]
    exact W.zret (v := y0) hx hb hr hz9 (fun t ht hW => ⟨⟨y0, (iv, g_there), rfl, hw, by rw [ht]; exact hP, va_K.moved hW.alike hK, hD⟩, hS.F ht⟩) hS.2.2 px_d118_29
  have S28 : ∀ (x1 : Int32) (iv : Nat → Int32) (g_there : Nat → Int32) (H : Heap) (locs : List Loc) (ls : Array Slot), va_P (dC, dI) vwCl [(h0, .inr (8, px_mf rf iv)), (rf 18, .inl (c_there, 26, .inl g_there))] H → va_D A [(h0, .inr (8, px_mf rf iv)), (rf 18, .inl (c_there, 26, .inl g_there))] → va_S A s.heap H locs → lv_has ls 2 [(0, .ref h0), (1, .int x1)] → w118_L28 post x1 iv g_there → W p l e (headSpec px_s118 ({ frames := 0, cells := 0, slots := 0, locals := 0 })).room s m ([.ref h0, .int a1x]).toArray below meth c H locs 0 0 Q (F0 m 28 ls []) := by
    intro x1 iv g_there H locs ls hP hD hS hl hw
    unfold w118_L28 at hw
    refine lv_iconst (v := 0) hx hb px_d118_28 (by decide) ?_
    exact S29 x1 0 iv g_there H locs ls hP hD hS (lv_sub hl [0, 1] rfl) hw
  unfold w118_wp at hw
  have hS0 := hS
  obtain ⟨H, hH9⟩ : ∃ z, z = s.heap := ⟨_, rfl⟩
  have hP : va_P (dC, dI) vwCl [(h0, .inr (8, px_mf rf iv)), (rf 18, .inl (c_there, 26, .inl g_there))] H := by rw [hH9]; exact hP
  obtain ⟨locs, hlo9⟩ : ∃ z : List Loc, z = [] := ⟨_, rfl⟩
  have hS : va_S A s.heap H locs := by rw [hH9, hlo9]; exact hS
  suffices hG : W p l e (headSpec px_s118 ({ frames := 0, cells := 0, slots := 0, locals := 0 })).room s m ([.ref h0, .int a1x]).toArray below meth c H locs 0 0 Q (F0 m 0 ls []) by rw [hH9, hlo9] at hG; exact hG
  refine lv_aload_n hx hb px_d118_0 rfl (lv_at hl 0 rfl) ?_
  refine lv_iconst (v := 0) hx hb px_d118_1 (by decide) ?_
  refine va_put (D := (dC, dI)) (ci := 8) (v := .int 0) (ty := .int) (C := "MatroidDeskModel") (T := px_T8) (N := 53) hx hb htw px_in8 px_ty8 px_tyok8 px_nm8 hown hK hP hD hS 0 rfl rfl 49 (by decide) (htw _ px_w384) (fun _ h9 => h9) rfl (by decide +kernel) rfl rfl (Nat.le_of_ble_eq_true rfl) px_d118_2 (fun H locs hP hD hS => ?_)
  rw [px_ms49] at hP hD
  have hP : va_P (dC, dI) vwCl [(h0, .inr (8, px_mf rf (va_up iv 49 0))), (rf 18, .inl (c_there, 26, .inl g_there))] H := hP
  have hD : va_D A [(h0, .inr (8, px_mf rf (va_up iv 49 0))), (rf 18, .inl (c_there, 26, .inl g_there))] := hD
  refine lv_iload_n hx hb px_d118_5 rfl (lv_at hl 1 rfl) ?_
  refine lv_if_lt (tgt := 28) hx hb px_d118_6 (by decide) (fun c6 => ?_) (fun c6 => ?_)
  · have hw := hw.1 c6
    exact S28 a1x (va_up iv 49 0) g_there H locs ls hP hD hS (lv_sub hl [0, 1] rfl) hw
  · have hw := hw.2 c6
    refine lv_iload_n hx hb px_d118_9 rfl (lv_at hl 1 rfl) ?_
    refine lv_bipush (v := 26) hx hb px_d118_10 (by decide) ?_
    refine lv_icmp_ge (tgt := 28) hx hb px_d118_12 (by decide) (fun c12 => ?_) (fun c12 => ?_)
    · have hw := hw.1 c12
      exact S28 a1x (va_up iv 49 0) g_there H locs ls hP hD hS (lv_sub hl [0, 1] rfl) hw
    · have hw := hw.2 c12
      refine lv_aload_n hx hb px_d118_15 rfl (lv_at hl 0 rfl) ?_
      refine va_get (D := (dC, dI)) (ci := 8) (v := .ref (rf 18)) (C := "MatroidDeskModel") (T := px_T8) (N := 53) hx hb htw px_in8 hown hK hP 0 rfl rfl 18 (by decide) (htw _ px_w501) (fun _ h9 => h9) rfl px_d118_16 ?_
      refine lv_iload_n hx hb px_d118_19 rfl (lv_at hl 1 rfl) ?_
      obtain ⟨hi20, hw⟩ := hw
      refine va_zald hx hb hK hP 1 0 rfl rfl hi20 px_d118_20 ?_
      refine lv_if_eq (tgt := 28) hx hb px_d118_21 (by decide) (fun c21 => ?_) (fun c21 => ?_)
      · have hw := hw.1 c21
        exact S28 a1x (va_up iv 49 0) g_there H locs ls hP hD hS (lv_sub hl [0, 1] rfl) hw
      · have hw := hw.2 c21
        refine lv_iconst (v := 1) hx hb px_d118_24 (by decide) ?_
        refine lv_goto (tgt := 29) hx hb px_d118_25 (by decide) ?_
        exact S29 a1x 1 (va_up iv 49 0) g_there H locs ls hP hD hS (lv_sub hl [0, 1] rfl) hw

/-! MatroidDeskModel.elements(I)I -/
def w119_L18 (post : Int32 → (Nat → Int32) → (Nat → Int32) → (Nat → Int32) → Prop) (x1 : Int32) (y0 : Int32) (iv : Nat → Int32) (g_there : Nat → Int32) (g_elements : Nat → Int32) : Prop := post y0 iv g_there g_elements
def w119_wp (post : Int32 → (Nat → Int32) → (Nat → Int32) → (Nat → Int32) → Prop) (a1x : Int32) (iv : Nat → Int32) (g_there : Nat → Int32) (g_elements : Nat → Int32) : Prop := w118_wp (fun r2 v1 v2 => (r2 = 0 → w119_L18 post a1x (-1) v1 v2 g_elements) ∧ (¬ r2 = 0 → vp_in a1x 26 ∧ (w119_L18 post a1x (g_elements (Int32.toNatClampNeg a1x)) v1 v2 g_elements))) a1x iv g_there
set_option maxHeartbeats 8000000 in
set_option maxRecDepth 100000 in
theorem w119_met (l : Launch) (dC : Nat → ClassId) (dI : Nat → Nat → Nat) (sz : Nat) (h0 : Nat) (rf : Nat → Nat) (c_there : ClassId) (c_elements : ClassId) (a1x : Int32) (iv : Nat → Int32) (g_there : Nat → Int32) (g_elements : Nat → Int32) (post : Int32 → (Nat → Int32) → (Nat → Int32) → (Nat → Int32) → Prop) (hw : w119_wp post a1x iv g_there g_elements) : Met l px_y119 px_s119 ({ frames := 1, cells := 0, slots := 0, locals := 21 }) (va_Pc [.ref h0, .int a1x] (fun U => U.heap.size = sz ∧ va_P (dC, dI) vwCl [(h0, .inr (8, px_mf rf iv)), (rf 18, .inl (c_there, 26, .inl g_there)), (rf 19, .inl (c_elements, 26, .inl g_elements))] U.heap ∧ va_K (dC, dI) vwCl [(c_there, .boolean), (c_elements, .int)] U ∧ va_D (fun _ => True) [(h0, .inr (8, px_mf rf iv)), (rf 18, .inl (c_there, 26, .inl g_there)), (rf 19, .inl (c_elements, 26, .inl g_elements))] ∧ px_N U)) (va_Qi (fun (r : Int32) (u : (Nat → Int32) × (Nat → Int32) × (Nat → Int32)) => post r u.1 u.2.1 u.2.2) (fun (u : (Nat → Int32) × (Nat → Int32) × (Nat → Int32)) (t : State) => va_P (dC, dI) vwCl [(h0, .inr (8, px_mf rf u.1)), (rf 18, .inl (c_there, 26, .inl u.2.1)), (rf 19, .inl (c_elements, 26, .inl u.2.2))] t.heap ∧ va_K (dC, dI) vwCl [(c_there, .boolean), (c_elements, .int)] t ∧ va_D (va_A [(h0, .inr (8, px_mf rf iv)), (rf 18, .inl (c_there, 26, .inl g_there)), (rf 19, .inl (c_elements, 26, .inl g_elements))] sz) [(h0, .inr (8, px_mf rf u.1)), (rf 18, .inl (c_there, 26, .inl u.2.1)), (rf 19, .inl (c_elements, 26, .inl u.2.2))]) (va_A [(h0, .inr (8, px_mf rf iv)), (rf 18, .inl (c_there, 26, .inl g_there)), (rf 19, .inl (c_elements, 26, .inl g_elements))] sz)) 0 0 (va_A [(h0, .inr (8, px_mf rf iv)), (rf 18, .inl (c_there, 26, .inl g_there)), (rf 19, .inl (c_elements, 26, .inl g_elements))] sz) := by
  refine Met.ofW (cc := prog_15_method_98_code) (maxL := 2) (ret := (some .int)) (by decide) rfl ?_
  intro p e s m args below meth c s₁ B hml hv
  obtain ⟨rfl, hsz, hP, hK, hD0, hN⟩ := hv
  have hx := B.exec
  have hb := B.bytes
  have hr := B.returns
  have htw : ∀ w ∈ px_all, w.before _ s = true := fun w h => atoms_spec (ws := px_s119) B.pre w (List.mem_cons_of_mem _ h)
  have hown : s.vm.findClass "MatroidDeskModel" = some m.cls := findClass_of_methodNamed B.named
  have hlocks := B.notSynchronized
  subst hsz
  have hD := hD0.self (sz := s.heap.size)
  generalize hAe : va_A [(h0, .inr (8, px_mf rf iv)), (rf 18, .inl (c_there, 26, .inl g_there)), (rf 19, .inl (c_elements, 26, .inl g_elements))] s.heap.size = A at hD ⊢
  have hA : ∀ q : Nat, s.heap.size ≤ q → A q := fun q h => by rw [← hAe]; exact Or.inr h
  have hS : va_S A s.heap s.heap [] := va_S.rf
  have hP : va_P (dC, dI) vwCl [(h0, .inr (8, px_mf rf iv)), (rf 18, .inl (c_there, 26, .inl g_there)), (rf 19, .inl (c_elements, 26, .inl g_elements))] s.heap := hP
  have hl := lv_entry ([.ref h0, .int a1x]) (n := 2) (Nat.le_of_ble_eq_true rfl)
  rw [lg_entry_eq]
  generalize (lg_sl ([.ref h0, .int a1x]) ++ List.replicate (2 - (lg_sl ([.ref h0, .int a1x])).length) Slot.unset).toArray = ls at hl ⊢
  have hl : lv_has ls 2 [(0, .ref h0), (1, .int a1x)] := hl
  generalize hQ : MQ _ _ _ _ _ _ _ = Q
  have S18 : ∀ (x1 : Int32) (y0 : Int32) (iv : Nat → Int32) (g_there : Nat → Int32) (g_elements : Nat → Int32) (H : Heap) (locs : List Loc) (ls : Array Slot), va_P (dC, dI) vwCl [(h0, .inr (8, px_mf rf iv)), (rf 18, .inl (c_there, 26, .inl g_there)), (rf 19, .inl (c_elements, 26, .inl g_elements))] H → va_D A [(h0, .inr (8, px_mf rf iv)), (rf 18, .inl (c_there, 26, .inl g_there)), (rf 19, .inl (c_elements, 26, .inl g_elements))] → va_S A s.heap H locs → lv_has ls 2 [(0, .ref h0), (1, .int x1)] → w119_L18 post x1 y0 iv g_there g_elements → W p l e (headSpec px_s119 ({ frames := 1, cells := 0, slots := 0, locals := 21 })).room s m ([.ref h0, .int a1x]).toArray below meth c H locs 0 0 Q (F0 m 18 ls [.int y0]) := by
    intro x1 y0 iv g_there g_elements H locs ls hP hD hS hl hw
    unfold w119_L18 at hw
    rw [← hQ]
    exact W.iret (v := y0) hx hb hr (fun t ht hW => ⟨⟨y0, (iv, g_there, g_elements), rfl, hw, by rw [ht]; exact hP, va_K.moved hW.alike hK, hD⟩, hS.F ht⟩) hS.2.2 px_d119_18
  unfold w119_wp at hw
  have hS0 := hS
  obtain ⟨H, hH9⟩ : ∃ z, z = s.heap := ⟨_, rfl⟩
  have hP : va_P (dC, dI) vwCl [(h0, .inr (8, px_mf rf iv)), (rf 18, .inl (c_there, 26, .inl g_there)), (rf 19, .inl (c_elements, 26, .inl g_elements))] H := by rw [hH9]; exact hP
  obtain ⟨locs, hlo9⟩ : ∃ z : List Loc, z = [] := ⟨_, rfl⟩
  have hS : va_S A s.heap H locs := by rw [hH9, hlo9]; exact hS
  suffices hG : W p l e (headSpec px_s119 ({ frames := 1, cells := 0, slots := 0, locals := 21 })).room s m ([.ref h0, .int a1x]).toArray below meth c H locs 0 0 Q (F0 m 0 ls []) by rw [hH9, hlo9] at hG; exact hG
  refine lv_aload_n hx hb px_d119_0 rfl (lv_at hl 0 rfl) ?_
  refine lv_iload_n hx hb px_d119_1 rfl (lv_at hl 1 rfl) ?_
  have hPc := hP.sub (ws' := [(h0, .inr (8, px_mf rf iv)), (rf 18, .inl (c_there, 26, .inl g_there))]) [0, 1] rfl
  have hDc := hD.sub (ws' := [(h0, .inr (8, px_mf rf iv)), (rf 18, .inl (c_there, 26, .inl g_there))]) [0, 1] (by decide) rfl
  have hKc := hK.sub (tys' := [(c_there, .boolean)]) [0] rfl
  have hFc := va_free (wc := [(h0, .inr (8, px_mf rf iv)), (rf 18, .inl (c_there, 26, .inl g_there))]) hD hS hA [0, 1] rfl
  refine va_calli (va_runV (As := [.int a1x]) (rest := []) ⟨hx, hb, hml, hown, htw⟩ (w118_met l dC dI H.size h0 rf c_there a1x iv g_there _ hw) (cwV 1 htw (px_gv px_w764 px_w759 px_w760 px_w94 px_g118) rfl rfl rfl (by decide +kernel) ⟨Nat.le_of_ble_eq_true rfl, Nat.le_of_ble_eq_true rfl⟩) ⟨fun a U g mk q => by obtain ⟨q0, q1, qP, qK, qD, qN⟩ := q; exact ⟨q0, q1, qP, va_K.moved (u := U) (U := U.calling g mk a) (Vm.Alike.refl U.vm) qK, qD, qN.same rfl⟩, va_recv hK hP (ci := 8) (q0 := 0) rfl rfl, fun U hU hW => ⟨rfl, by rw [hU], by rw [hU]; exact hPc, va_K.moved hW.alike hKc, hDc.weaken (fun _ _ _ _ => trivial), hN.warm hW⟩⟩ rfl rfl hl.1 rfl (lv_room (Nat.le_of_ble_eq_true rfl)) px_d119_2 ⟨(Nat.le_of_ble_eq_true rfl), (Nat.le_of_ble_eq_true rfl)⟩) hS (fun q _ h => hFc q h) hFc (fun r2 u t H1 locs ht hvm hw hB hz1 hk1 hS => ?_)
  obtain ⟨v1, v2⟩ := u
  obtain ⟨hP1, hK1, hD1⟩ := hB
  rw [ht] at hP1
  have hK1 := va_K.moved hvm.symm hK1
  obtain ⟨hP, hD⟩ := va_join (wr := [(rf 19, .inl (c_elements, 26, .inl g_elements))]) (w1 := [(h0, .inr (8, px_mf rf v1)), (rf 18, .inl (c_there, 26, .inl v2))]) hP hD [0, 1] [2] rfl rfl (by decide) (by decide) hk1 hFc hP1 hD1
  generalize H1 = H at hP hS ⊢
  have hP : va_P (dC, dI) vwCl [(rf 19, .inl (c_elements, 26, .inl g_elements)), (h0, .inr (8, px_mf rf v1)), (rf 18, .inl (c_there, 26, .inl v2))] H := hP
  have hD : va_D A [(rf 19, .inl (c_elements, 26, .inl g_elements)), (h0, .inr (8, px_mf rf v1)), (rf 18, .inl (c_there, 26, .inl v2))] := hD
  have hP := hP.sub (ws' := [(h0, .inr (8, px_mf rf v1)), (rf 18, .inl (c_there, 26, .inl v2)), (rf 19, .inl (c_elements, 26, .inl g_elements))]) [1, 2, 0] rfl
  have hD := hD.sub (ws' := [(h0, .inr (8, px_mf rf v1)), (rf 18, .inl (c_there, 26, .inl v2)), (rf 19, .inl (c_elements, 26, .inl g_elements))]) [1, 2, 0] (by decide) rfl
  refine lv_if_eq (tgt := 17) hx hb px_d119_5 (by decide) (fun c5 => ?_) (fun c5 => ?_)
  · have hw := hw.1 c5
    refine lv_iconst (v := (-1)) hx hb px_d119_17 (by decide) ?_
    exact S18 a1x (-1) v1 v2 g_elements H locs ls hP hD hS (lv_sub hl [0, 1] rfl) hw
  · have hw := hw.2 c5
    refine lv_aload_n hx hb px_d119_8 rfl (lv_at hl 0 rfl) ?_
    refine va_get (D := (dC, dI)) (ci := 8) (v := .ref (rf 19)) (C := "MatroidDeskModel") (T := px_T8) (N := 53) hx hb htw px_in8 hown hK hP 0 rfl rfl 19 (by decide) (htw _ px_w502) (fun _ h9 => h9) rfl px_d119_9 ?_
    refine lv_iload_n hx hb px_d119_12 rfl (lv_at hl 1 rfl) ?_
    obtain ⟨hi13, hw⟩ := hw
    refine va_iald hx hb hK hP 2 1 rfl rfl hi13 px_d119_13 ?_
    refine lv_goto (tgt := 18) hx hb px_d119_14 (by decide) ?_
    exact S18 a1x (g_elements (Int32.toNatClampNeg a1x)) v1 v2 g_elements H locs ls hP hD hS (lv_sub hl [0, 1] rfl) hw

/-! MatroidDeskModel.field(I)I -/
def w120_L18 (post : Int32 → (Nat → Int32) → (Nat → Int32) → (Nat → Int32) → Prop) (x1 : Int32) (y0 : Int32) (iv : Nat → Int32) (g_there : Nat → Int32) (g_fields : Nat → Int32) : Prop := post y0 iv g_there g_fields
def w120_wp (post : Int32 → (Nat → Int32) → (Nat → Int32) → (Nat → Int32) → Prop) (a1x : Int32) (iv : Nat → Int32) (g_there : Nat → Int32) (g_fields : Nat → Int32) : Prop := w118_wp (fun r2 v1 v2 => (r2 = 0 → w120_L18 post a1x (-1) v1 v2 g_fields) ∧ (¬ r2 = 0 → vp_in a1x 26 ∧ (w120_L18 post a1x (g_fields (Int32.toNatClampNeg a1x)) v1 v2 g_fields))) a1x iv g_there
set_option maxHeartbeats 8000000 in
set_option maxRecDepth 100000 in
theorem w120_met (l : Launch) (dC : Nat → ClassId) (dI : Nat → Nat → Nat) (sz : Nat) (h0 : Nat) (rf : Nat → Nat) (c_there : ClassId) (c_fields : ClassId) (a1x : Int32) (iv : Nat → Int32) (g_there : Nat → Int32) (g_fields : Nat → Int32) (post : Int32 → (Nat → Int32) → (Nat → Int32) → (Nat → Int32) → Prop) (hw : w120_wp post a1x iv g_there g_fields) : Met l px_y120 px_s120 ({ frames := 1, cells := 0, slots := 0, locals := 21 }) (va_Pc [.ref h0, .int a1x] (fun U => U.heap.size = sz ∧ va_P (dC, dI) vwCl [(h0, .inr (8, px_mf rf iv)), (rf 18, .inl (c_there, 26, .inl g_there)), (rf 20, .inl (c_fields, 26, .inl g_fields))] U.heap ∧ va_K (dC, dI) vwCl [(c_there, .boolean), (c_fields, .int)] U ∧ va_D (fun _ => True) [(h0, .inr (8, px_mf rf iv)), (rf 18, .inl (c_there, 26, .inl g_there)), (rf 20, .inl (c_fields, 26, .inl g_fields))] ∧ px_N U)) (va_Qi (fun (r : Int32) (u : (Nat → Int32) × (Nat → Int32) × (Nat → Int32)) => post r u.1 u.2.1 u.2.2) (fun (u : (Nat → Int32) × (Nat → Int32) × (Nat → Int32)) (t : State) => va_P (dC, dI) vwCl [(h0, .inr (8, px_mf rf u.1)), (rf 18, .inl (c_there, 26, .inl u.2.1)), (rf 20, .inl (c_fields, 26, .inl u.2.2))] t.heap ∧ va_K (dC, dI) vwCl [(c_there, .boolean), (c_fields, .int)] t ∧ va_D (va_A [(h0, .inr (8, px_mf rf iv)), (rf 18, .inl (c_there, 26, .inl g_there)), (rf 20, .inl (c_fields, 26, .inl g_fields))] sz) [(h0, .inr (8, px_mf rf u.1)), (rf 18, .inl (c_there, 26, .inl u.2.1)), (rf 20, .inl (c_fields, 26, .inl u.2.2))]) (va_A [(h0, .inr (8, px_mf rf iv)), (rf 18, .inl (c_there, 26, .inl g_there)), (rf 20, .inl (c_fields, 26, .inl g_fields))] sz)) 0 0 (va_A [(h0, .inr (8, px_mf rf iv)), (rf 18, .inl (c_there, 26, .inl g_there)), (rf 20, .inl (c_fields, 26, .inl g_fields))] sz) := by
  refine Met.ofW (cc := prog_15_method_99_code) (maxL := 2) (ret := (some .int)) (by decide) rfl ?_
  intro p e s m args below meth c s₁ B hml hv
  obtain ⟨rfl, hsz, hP, hK, hD0, hN⟩ := hv
  have hx := B.exec
  have hb := B.bytes
  have hr := B.returns
  have htw : ∀ w ∈ px_all, w.before _ s = true := fun w h => atoms_spec (ws := px_s120) B.pre w (List.mem_cons_of_mem _ h)
  have hown : s.vm.findClass "MatroidDeskModel" = some m.cls := findClass_of_methodNamed B.named
  have hlocks := B.notSynchronized
  subst hsz
  have hD := hD0.self (sz := s.heap.size)
  generalize hAe : va_A [(h0, .inr (8, px_mf rf iv)), (rf 18, .inl (c_there, 26, .inl g_there)), (rf 20, .inl (c_fields, 26, .inl g_fields))] s.heap.size = A at hD ⊢
  have hA : ∀ q : Nat, s.heap.size ≤ q → A q := fun q h => by rw [← hAe]; exact Or.inr h
  have hS : va_S A s.heap s.heap [] := va_S.rf
  have hP : va_P (dC, dI) vwCl [(h0, .inr (8, px_mf rf iv)), (rf 18, .inl (c_there, 26, .inl g_there)), (rf 20, .inl (c_fields, 26, .inl g_fields))] s.heap := hP
  have hl := lv_entry ([.ref h0, .int a1x]) (n := 2) (Nat.le_of_ble_eq_true rfl)
  rw [lg_entry_eq]
  generalize (lg_sl ([.ref h0, .int a1x]) ++ List.replicate (2 - (lg_sl ([.ref h0, .int a1x])).length) Slot.unset).toArray = ls at hl ⊢
  have hl : lv_has ls 2 [(0, .ref h0), (1, .int a1x)] := hl
  generalize hQ : MQ _ _ _ _ _ _ _ = Q
  have S18 : ∀ (x1 : Int32) (y0 : Int32) (iv : Nat → Int32) (g_there : Nat → Int32) (g_fields : Nat → Int32) (H : Heap) (locs : List Loc) (ls : Array Slot), va_P (dC, dI) vwCl [(h0, .inr (8, px_mf rf iv)), (rf 18, .inl (c_there, 26, .inl g_there)), (rf 20, .inl (c_fields, 26, .inl g_fields))] H → va_D A [(h0, .inr (8, px_mf rf iv)), (rf 18, .inl (c_there, 26, .inl g_there)), (rf 20, .inl (c_fields, 26, .inl g_fields))] → va_S A s.heap H locs → lv_has ls 2 [(0, .ref h0), (1, .int x1)] → w120_L18 post x1 y0 iv g_there g_fields → W p l e (headSpec px_s120 ({ frames := 1, cells := 0, slots := 0, locals := 21 })).room s m ([.ref h0, .int a1x]).toArray below meth c H locs 0 0 Q (F0 m 18 ls [.int y0]) := by
    intro x1 y0 iv g_there g_fields H locs ls hP hD hS hl hw
    unfold w120_L18 at hw
    rw [← hQ]
    exact W.iret (v := y0) hx hb hr (fun t ht hW => ⟨⟨y0, (iv, g_there, g_fields), rfl, hw, by rw [ht]; exact hP, va_K.moved hW.alike hK, hD⟩, hS.F ht⟩) hS.2.2 px_d120_18
  unfold w120_wp at hw
  have hS0 := hS
  obtain ⟨H, hH9⟩ : ∃ z, z = s.heap := ⟨_, rfl⟩
  have hP : va_P (dC, dI) vwCl [(h0, .inr (8, px_mf rf iv)), (rf 18, .inl (c_there, 26, .inl g_there)), (rf 20, .inl (c_fields, 26, .inl g_fields))] H := by rw [hH9]; exact hP
  obtain ⟨locs, hlo9⟩ : ∃ z : List Loc, z = [] := ⟨_, rfl⟩
  have hS : va_S A s.heap H locs := by rw [hH9, hlo9]; exact hS
  suffices hG : W p l e (headSpec px_s120 ({ frames := 1, cells := 0, slots := 0, locals := 21 })).room s m ([.ref h0, .int a1x]).toArray below meth c H locs 0 0 Q (F0 m 0 ls []) by rw [hH9, hlo9] at hG; exact hG
  refine lv_aload_n hx hb px_d120_0 rfl (lv_at hl 0 rfl) ?_
  refine lv_iload_n hx hb px_d120_1 rfl (lv_at hl 1 rfl) ?_
  have hPc := hP.sub (ws' := [(h0, .inr (8, px_mf rf iv)), (rf 18, .inl (c_there, 26, .inl g_there))]) [0, 1] rfl
  have hDc := hD.sub (ws' := [(h0, .inr (8, px_mf rf iv)), (rf 18, .inl (c_there, 26, .inl g_there))]) [0, 1] (by decide) rfl
  have hKc := hK.sub (tys' := [(c_there, .boolean)]) [0] rfl
  have hFc := va_free (wc := [(h0, .inr (8, px_mf rf iv)), (rf 18, .inl (c_there, 26, .inl g_there))]) hD hS hA [0, 1] rfl
  refine va_calli (va_runV (As := [.int a1x]) (rest := []) ⟨hx, hb, hml, hown, htw⟩ (w118_met l dC dI H.size h0 rf c_there a1x iv g_there _ hw) (cwV 1 htw (px_gv px_w764 px_w759 px_w760 px_w94 px_g118) rfl rfl rfl (by decide +kernel) ⟨Nat.le_of_ble_eq_true rfl, Nat.le_of_ble_eq_true rfl⟩) ⟨fun a U g mk q => by obtain ⟨q0, q1, qP, qK, qD, qN⟩ := q; exact ⟨q0, q1, qP, va_K.moved (u := U) (U := U.calling g mk a) (Vm.Alike.refl U.vm) qK, qD, qN.same rfl⟩, va_recv hK hP (ci := 8) (q0 := 0) rfl rfl, fun U hU hW => ⟨rfl, by rw [hU], by rw [hU]; exact hPc, va_K.moved hW.alike hKc, hDc.weaken (fun _ _ _ _ => trivial), hN.warm hW⟩⟩ rfl rfl hl.1 rfl (lv_room (Nat.le_of_ble_eq_true rfl)) px_d120_2 ⟨(Nat.le_of_ble_eq_true rfl), (Nat.le_of_ble_eq_true rfl)⟩) hS (fun q _ h => hFc q h) hFc (fun r2 u t H1 locs ht hvm hw hB hz1 hk1 hS => ?_)
  obtain ⟨v1, v2⟩ := u
  obtain ⟨hP1, hK1, hD1⟩ := hB
  rw [ht] at hP1
  have hK1 := va_K.moved hvm.symm hK1
  obtain ⟨hP, hD⟩ := va_join (wr := [(rf 20, .inl (c_fields, 26, .inl g_fields))]) (w1 := [(h0, .inr (8, px_mf rf v1)), (rf 18, .inl (c_there, 26, .inl v2))]) hP hD [0, 1] [2] rfl rfl (by decide) (by decide) hk1 hFc hP1 hD1
  generalize H1 = H at hP hS ⊢
  have hP : va_P (dC, dI) vwCl [(rf 20, .inl (c_fields, 26, .inl g_fields)), (h0, .inr (8, px_mf rf v1)), (rf 18, .inl (c_there, 26, .inl v2))] H := hP
  have hD : va_D A [(rf 20, .inl (c_fields, 26, .inl g_fields)), (h0, .inr (8, px_mf rf v1)), (rf 18, .inl (c_there, 26, .inl v2))] := hD
  have hP := hP.sub (ws' := [(h0, .inr (8, px_mf rf v1)), (rf 18, .inl (c_there, 26, .inl v2)), (rf 20, .inl (c_fields, 26, .inl g_fields))]) [1, 2, 0] rfl
  have hD := hD.sub (ws' := [(h0, .inr (8, px_mf rf v1)), (rf 18, .inl (c_there, 26, .inl v2)), (rf 20, .inl (c_fields, 26, .inl g_fields))]) [1, 2, 0] (by decide) rfl
  refine lv_if_eq (tgt := 17) hx hb px_d120_5 (by decide) (fun c5 => ?_) (fun c5 => ?_)
  · have hw := hw.1 c5
    refine lv_iconst (v := (-1)) hx hb px_d120_17 (by decide) ?_
    exact S18 a1x (-1) v1 v2 g_fields H locs ls hP hD hS (lv_sub hl [0, 1] rfl) hw
  · have hw := hw.2 c5
    refine lv_aload_n hx hb px_d120_8 rfl (lv_at hl 0 rfl) ?_
    refine va_get (D := (dC, dI)) (ci := 8) (v := .ref (rf 20)) (C := "MatroidDeskModel") (T := px_T8) (N := 53) hx hb htw px_in8 hown hK hP 0 rfl rfl 20 (by decide) (htw _ px_w503) (fun _ h9 => h9) rfl px_d120_9 ?_
    refine lv_iload_n hx hb px_d120_12 rfl (lv_at hl 1 rfl) ?_
    obtain ⟨hi13, hw⟩ := hw
    refine va_iald hx hb hK hP 2 1 rfl rfl hi13 px_d120_13 ?_
    refine lv_goto (tgt := 18) hx hb px_d120_14 (by decide) ?_
    exact S18 a1x (g_fields (Int32.toNatClampNeg a1x)) v1 v2 g_fields H locs ls hP hD hS (lv_sub hl [0, 1] rfl) hw

/-! MatroidDeskModel.rank(II)I -/
def w121_L31 (post : Int32 → (Nat → Int32) → (Nat → Int32) → (Nat → Int32) → (Nat → Int32) → Prop) (x1 : Int32) (x2 : Int32) (y0 : Int32) (iv : Nat → Int32) (g_there : Nat → Int32) (g_elements : Nat → Int32) (g_rankOf : Nat → Int32) : Prop := post y0 iv g_there g_elements g_rankOf
def w121_L30 (post : Int32 → (Nat → Int32) → (Nat → Int32) → (Nat → Int32) → (Nat → Int32) → Prop) (x1 : Int32) (x2 : Int32) (iv : Nat → Int32) (g_there : Nat → Int32) (g_elements : Nat → Int32) (g_rankOf : Nat → Int32) : Prop := w121_L31 post x1 x2 (-1) iv g_there g_elements g_rankOf
def w121_wp (post : Int32 → (Nat → Int32) → (Nat → Int32) → (Nat → Int32) → (Nat → Int32) → Prop) (a1x : Int32) (a2x : Int32) (iv : Nat → Int32) (g_there : Nat → Int32) (g_elements : Nat → Int32) (g_rankOf : Nat → Int32) : Prop := w118_wp (fun r2 v1 v2 => (r2 = 0 → w121_L30 post a1x a2x v1 v2 g_elements g_rankOf) ∧ (¬ r2 = 0 → (a2x < 0 → w121_L30 post a1x a2x v1 v2 g_elements g_rankOf) ∧ (¬ a2x < 0 → w71_wp (fun r15 v3 v4 => (r15 < a2x → w121_L30 post a1x a2x v3 v2 v4 g_rankOf) ∧ (¬ r15 < a2x → w70_wp (fun r24 v5 v6 => w121_L31 post a1x a2x r24 v5 v2 v4 v6) a1x a2x v3 g_rankOf)) a1x v1 g_elements))) a1x iv g_there
set_option maxHeartbeats 8000000 in
set_option maxRecDepth 100000 in
theorem w121_met (l : Launch) (dC : Nat → ClassId) (dI : Nat → Nat → Nat) (sz : Nat) (h0 : Nat) (rf : Nat → Nat) (c_there : ClassId) (c_elements : ClassId) (c_rankOf : ClassId) (a1x : Int32) (a2x : Int32) (iv : Nat → Int32) (g_there : Nat → Int32) (g_elements : Nat → Int32) (g_rankOf : Nat → Int32) (post : Int32 → (Nat → Int32) → (Nat → Int32) → (Nat → Int32) → (Nat → Int32) → Prop) (hw : w121_wp post a1x a2x iv g_there g_elements g_rankOf) : Met l px_y121 px_s121 ({ frames := 1, cells := 0, slots := 0, locals := 22 }) (va_Pc [.ref h0, .int a1x, .int a2x] (fun U => U.heap.size = sz ∧ va_P (dC, dI) vwCl [(h0, .inr (8, px_mf rf iv)), (rf 18, .inl (c_there, 26, .inl g_there)), (rf 19, .inl (c_elements, 26, .inl g_elements)), (rf 25, .inl (c_rankOf, 106496, .inl g_rankOf))] U.heap ∧ va_K (dC, dI) vwCl [(c_there, .boolean), (c_elements, .int), (c_rankOf, .byte)] U ∧ va_D (fun _ => True) [(h0, .inr (8, px_mf rf iv)), (rf 18, .inl (c_there, 26, .inl g_there)), (rf 19, .inl (c_elements, 26, .inl g_elements)), (rf 25, .inl (c_rankOf, 106496, .inl g_rankOf))] ∧ px_N U)) (va_Qi (fun (r : Int32) (u : (Nat → Int32) × (Nat → Int32) × (Nat → Int32) × (Nat → Int32)) => post r u.1 u.2.1 u.2.2.1 u.2.2.2) (fun (u : (Nat → Int32) × (Nat → Int32) × (Nat → Int32) × (Nat → Int32)) (t : State) => va_P (dC, dI) vwCl [(h0, .inr (8, px_mf rf u.1)), (rf 18, .inl (c_there, 26, .inl u.2.1)), (rf 19, .inl (c_elements, 26, .inl u.2.2.1)), (rf 25, .inl (c_rankOf, 106496, .inl u.2.2.2))] t.heap ∧ va_K (dC, dI) vwCl [(c_there, .boolean), (c_elements, .int), (c_rankOf, .byte)] t ∧ va_D (va_A [(h0, .inr (8, px_mf rf iv)), (rf 18, .inl (c_there, 26, .inl g_there)), (rf 19, .inl (c_elements, 26, .inl g_elements)), (rf 25, .inl (c_rankOf, 106496, .inl g_rankOf))] sz) [(h0, .inr (8, px_mf rf u.1)), (rf 18, .inl (c_there, 26, .inl u.2.1)), (rf 19, .inl (c_elements, 26, .inl u.2.2.1)), (rf 25, .inl (c_rankOf, 106496, .inl u.2.2.2))]) (va_A [(h0, .inr (8, px_mf rf iv)), (rf 18, .inl (c_there, 26, .inl g_there)), (rf 19, .inl (c_elements, 26, .inl g_elements)), (rf 25, .inl (c_rankOf, 106496, .inl g_rankOf))] sz)) 0 0 (va_A [(h0, .inr (8, px_mf rf iv)), (rf 18, .inl (c_there, 26, .inl g_there)), (rf 19, .inl (c_elements, 26, .inl g_elements)), (rf 25, .inl (c_rankOf, 106496, .inl g_rankOf))] sz) := by
  refine Met.ofW (cc := prog_15_method_100_code) (maxL := 3) (ret := (some .int)) (by decide) rfl ?_
  intro p e s m args below meth c s₁ B hml hv
  obtain ⟨rfl, hsz, hP, hK, hD0, hN⟩ := hv
  have hx := B.exec
  have hb := B.bytes
  have hr := B.returns
  have htw : ∀ w ∈ px_all, w.before _ s = true := fun w h => atoms_spec (ws := px_s121) B.pre w (List.mem_cons_of_mem _ h)
  have hown : s.vm.findClass "MatroidDeskModel" = some m.cls := findClass_of_methodNamed B.named
  have hlocks := B.notSynchronized
  subst hsz
  have hD := hD0.self (sz := s.heap.size)
  generalize hAe : va_A [(h0, .inr (8, px_mf rf iv)), (rf 18, .inl (c_there, 26, .inl g_there)), (rf 19, .inl (c_elements, 26, .inl g_elements)), (rf 25, .inl (c_rankOf, 106496, .inl g_rankOf))] s.heap.size = A at hD ⊢
  have hA : ∀ q : Nat, s.heap.size ≤ q → A q := fun q h => by rw [← hAe]; exact Or.inr h
  have hS : va_S A s.heap s.heap [] := va_S.rf
  have hP : va_P (dC, dI) vwCl [(h0, .inr (8, px_mf rf iv)), (rf 18, .inl (c_there, 26, .inl g_there)), (rf 19, .inl (c_elements, 26, .inl g_elements)), (rf 25, .inl (c_rankOf, 106496, .inl g_rankOf))] s.heap := hP
  have hl := lv_entry ([.ref h0, .int a1x, .int a2x]) (n := 3) (Nat.le_of_ble_eq_true rfl)
  rw [lg_entry_eq]
  generalize (lg_sl ([.ref h0, .int a1x, .int a2x]) ++ List.replicate (3 - (lg_sl ([.ref h0, .int a1x, .int a2x])).length) Slot.unset).toArray = ls at hl ⊢
  have hl : lv_has ls 3 [(0, .ref h0), (1, .int a1x), (2, .int a2x)] := hl
  generalize hQ : MQ _ _ _ _ _ _ _ = Q
  have S31 : ∀ (x1 : Int32) (x2 : Int32) (y0 : Int32) (iv : Nat → Int32) (g_there : Nat → Int32) (g_elements : Nat → Int32) (g_rankOf : Nat → Int32) (H : Heap) (locs : List Loc) (ls : Array Slot), va_P (dC, dI) vwCl [(h0, .inr (8, px_mf rf iv)), (rf 18, .inl (c_there, 26, .inl g_there)), (rf 19, .inl (c_elements, 26, .inl g_elements)), (rf 25, .inl (c_rankOf, 106496, .inl g_rankOf))] H → va_D A [(h0, .inr (8, px_mf rf iv)), (rf 18, .inl (c_there, 26, .inl g_there)), (rf 19, .inl (c_elements, 26, .inl g_elements)), (rf 25, .inl (c_rankOf, 106496, .inl g_rankOf))] → va_S A s.heap H locs → lv_has ls 3 [(0, .ref h0), (1, .int x1), (2, .int x2)] → w121_L31 post x1 x2 y0 iv g_there g_elements g_rankOf → W p l e (headSpec px_s121 ({ frames := 1, cells := 0, slots := 0, locals := 22 })).room s m ([.ref h0, .int a1x, .int a2x]).toArray below meth c H locs 0 0 Q (F0 m 31 ls [.int y0]) := by
    intro x1 x2 y0 iv g_there g_elements g_rankOf H locs ls hP hD hS hl hw
    unfold w121_L31 at hw
    rw [← hQ]
    exact W.iret (v := y0) hx hb hr (fun t ht hW => ⟨⟨y0, (iv, g_there, g_elements, g_rankOf), rfl, hw, by rw [ht]; exact hP, va_K.moved hW.alike hK, hD⟩, hS.F ht⟩) hS.2.2 px_d121_31
  have S30 : ∀ (x1 : Int32) (x2 : Int32) (iv : Nat → Int32) (g_there : Nat → Int32) (g_elements : Nat → Int32) (g_rankOf : Nat → Int32) (H : Heap) (locs : List Loc) (ls : Array Slot), va_P (dC, dI) vwCl [(h0, .inr (8, px_mf rf iv)), (rf 18, .inl (c_there, 26, .inl g_there)), (rf 19, .inl (c_elements, 26, .inl g_elements)), (rf 25, .inl (c_rankOf, 106496, .inl g_rankOf))] H → va_D A [(h0, .inr (8, px_mf rf iv)), (rf 18, .inl (c_there, 26, .inl g_there)), (rf 19, .inl (c_elements, 26, .inl g_elements)), (rf 25, .inl (c_rankOf, 106496, .inl g_rankOf))] → va_S A s.heap H locs → lv_has ls 3 [(0, .ref h0), (1, .int x1), (2, .int x2)] → w121_L30 post x1 x2 iv g_there g_elements g_rankOf → W p l e (headSpec px_s121 ({ frames := 1, cells := 0, slots := 0, locals := 22 })).room s m ([.ref h0, .int a1x, .int a2x]).toArray below meth c H locs 0 0 Q (F0 m 30 ls []) := by
    intro x1 x2 iv g_there g_elements g_rankOf H locs ls hP hD hS hl hw
    unfold w121_L30 at hw
    refine lv_iconst (v := (-1)) hx hb px_d121_30 (by decide) ?_
    exact S31 x1 x2 (-1) iv g_there g_elements g_rankOf H locs ls hP hD hS (lv_sub hl [0, 1, 2] rfl) hw
  unfold w121_wp at hw
  have hS0 := hS
  obtain ⟨H, hH9⟩ : ∃ z, z = s.heap := ⟨_, rfl⟩
  have hP : va_P (dC, dI) vwCl [(h0, .inr (8, px_mf rf iv)), (rf 18, .inl (c_there, 26, .inl g_there)), (rf 19, .inl (c_elements, 26, .inl g_elements)), (rf 25, .inl (c_rankOf, 106496, .inl g_rankOf))] H := by rw [hH9]; exact hP
  obtain ⟨locs, hlo9⟩ : ∃ z : List Loc, z = [] := ⟨_, rfl⟩
  have hS : va_S A s.heap H locs := by rw [hH9, hlo9]; exact hS
  suffices hG : W p l e (headSpec px_s121 ({ frames := 1, cells := 0, slots := 0, locals := 22 })).room s m ([.ref h0, .int a1x, .int a2x]).toArray below meth c H locs 0 0 Q (F0 m 0 ls []) by rw [hH9, hlo9] at hG; exact hG
  refine lv_aload_n hx hb px_d121_0 rfl (lv_at hl 0 rfl) ?_
  refine lv_iload_n hx hb px_d121_1 rfl (lv_at hl 1 rfl) ?_
  have hPc := hP.sub (ws' := [(h0, .inr (8, px_mf rf iv)), (rf 18, .inl (c_there, 26, .inl g_there))]) [0, 1] rfl
  have hDc := hD.sub (ws' := [(h0, .inr (8, px_mf rf iv)), (rf 18, .inl (c_there, 26, .inl g_there))]) [0, 1] (by decide) rfl
  have hKc := hK.sub (tys' := [(c_there, .boolean)]) [0] rfl
  have hFc := va_free (wc := [(h0, .inr (8, px_mf rf iv)), (rf 18, .inl (c_there, 26, .inl g_there))]) hD hS hA [0, 1] rfl
  refine va_calli (va_runV (As := [.int a1x]) (rest := []) ⟨hx, hb, hml, hown, htw⟩ (w118_met l dC dI H.size h0 rf c_there a1x iv g_there _ hw) (cwV 1 htw (px_gv px_w764 px_w759 px_w760 px_w94 px_g118) rfl rfl rfl (by decide +kernel) ⟨Nat.le_of_ble_eq_true rfl, Nat.le_of_ble_eq_true rfl⟩) ⟨fun a U g mk q => by obtain ⟨q0, q1, qP, qK, qD, qN⟩ := q; exact ⟨q0, q1, qP, va_K.moved (u := U) (U := U.calling g mk a) (Vm.Alike.refl U.vm) qK, qD, qN.same rfl⟩, va_recv hK hP (ci := 8) (q0 := 0) rfl rfl, fun U hU hW => ⟨rfl, by rw [hU], by rw [hU]; exact hPc, va_K.moved hW.alike hKc, hDc.weaken (fun _ _ _ _ => trivial), hN.warm hW⟩⟩ rfl rfl hl.1 rfl (lv_room (Nat.le_of_ble_eq_true rfl)) px_d121_2 ⟨(Nat.le_of_ble_eq_true rfl), (Nat.le_of_ble_eq_true rfl)⟩) hS (fun q _ h => hFc q h) hFc (fun r2 u t H1 locs ht hvm hw hB hz1 hk1 hS => ?_)
  obtain ⟨v1, v2⟩ := u
  obtain ⟨hP1, hK1, hD1⟩ := hB
  rw [ht] at hP1
  have hK1 := va_K.moved hvm.symm hK1
  obtain ⟨hP, hD⟩ := va_join (wr := [(rf 19, .inl (c_elements, 26, .inl g_elements)), (rf 25, .inl (c_rankOf, 106496, .inl g_rankOf))]) (w1 := [(h0, .inr (8, px_mf rf v1)), (rf 18, .inl (c_there, 26, .inl v2))]) hP hD [0, 1] [2, 3] rfl rfl (by decide) (by decide) hk1 hFc hP1 hD1
  generalize H1 = H at hP hS ⊢
  have hP : va_P (dC, dI) vwCl [(rf 19, .inl (c_elements, 26, .inl g_elements)), (rf 25, .inl (c_rankOf, 106496, .inl g_rankOf)), (h0, .inr (8, px_mf rf v1)), (rf 18, .inl (c_there, 26, .inl v2))] H := hP
  have hD : va_D A [(rf 19, .inl (c_elements, 26, .inl g_elements)), (rf 25, .inl (c_rankOf, 106496, .inl g_rankOf)), (h0, .inr (8, px_mf rf v1)), (rf 18, .inl (c_there, 26, .inl v2))] := hD
  have hP := hP.sub (ws' := [(h0, .inr (8, px_mf rf v1)), (rf 18, .inl (c_there, 26, .inl v2)), (rf 19, .inl (c_elements, 26, .inl g_elements)), (rf 25, .inl (c_rankOf, 106496, .inl g_rankOf))]) [2, 3, 0, 1] rfl
  have hD := hD.sub (ws' := [(h0, .inr (8, px_mf rf v1)), (rf 18, .inl (c_there, 26, .inl v2)), (rf 19, .inl (c_elements, 26, .inl g_elements)), (rf 25, .inl (c_rankOf, 106496, .inl g_rankOf))]) [2, 3, 0, 1] (by decide) rfl
  refine lv_if_eq (tgt := 30) hx hb px_d121_5 (by decide) (fun c5 => ?_) (fun c5 => ?_)
  · have hw := hw.1 c5
    exact S30 a1x a2x v1 v2 g_elements g_rankOf H locs ls hP hD hS (lv_sub hl [0, 1, 2] rfl) hw
  · have hw := hw.2 c5
    refine lv_iload_n hx hb px_d121_8 rfl (lv_at hl 2 rfl) ?_
    refine lv_if_lt (tgt := 30) hx hb px_d121_9 (by decide) (fun c9 => ?_) (fun c9 => ?_)
    · have hw := hw.1 c9
      exact S30 a1x a2x v1 v2 g_elements g_rankOf H locs ls hP hD hS (lv_sub hl [0, 1, 2] rfl) hw
    · have hw := hw.2 c9
      refine lv_iload_n hx hb px_d121_12 rfl (lv_at hl 2 rfl) ?_
      refine lv_aload_n hx hb px_d121_13 rfl (lv_at hl 0 rfl) ?_
      refine lv_iload_n hx hb px_d121_14 rfl (lv_at hl 1 rfl) ?_
      have hPc := hP.sub (ws' := [(h0, .inr (8, px_mf rf v1)), (rf 19, .inl (c_elements, 26, .inl g_elements))]) [0, 2] rfl
      have hDc := hD.sub (ws' := [(h0, .inr (8, px_mf rf v1)), (rf 19, .inl (c_elements, 26, .inl g_elements))]) [0, 2] (by decide) rfl
      have hKc := hK.sub (tys' := [(c_elements, .int)]) [1] rfl
      have hFc := va_free (wc := [(h0, .inr (8, px_mf rf v1)), (rf 19, .inl (c_elements, 26, .inl g_elements))]) hD hS hA [0, 2] rfl
      refine va_calli (va_runV (As := [.int a1x]) (rest := [.int a2x]) ⟨hx, hb, hml, hown, htw⟩ (w71_met l dC dI H.size h0 rf c_elements a1x v1 g_elements _ hw) (cwV 1 htw (px_gv px_w565 px_w556 px_w557 px_w94 px_g71) rfl rfl rfl (by decide +kernel) ⟨Nat.le_of_ble_eq_true rfl, Nat.le_of_ble_eq_true rfl⟩) ⟨fun a U g mk q => by obtain ⟨q0, q1, qP, qK, qD, qN⟩ := q; exact ⟨q0, q1, qP, va_K.moved (u := U) (U := U.calling g mk a) (Vm.Alike.refl U.vm) qK, qD, qN.same rfl⟩, va_recv hK hP (ci := 8) (q0 := 0) rfl rfl, fun U hU hW => ⟨rfl, by rw [hU], by rw [hU]; exact hPc, va_K.moved hW.alike hKc, hDc.weaken (fun _ _ _ _ => trivial), hN.warm hW⟩⟩ rfl rfl hl.1 rfl (lv_room (Nat.le_of_ble_eq_true rfl)) px_d121_15 ⟨(Nat.le_of_ble_eq_true rfl), (Nat.le_of_ble_eq_true rfl)⟩) hS (fun q _ h => hFc q h) hFc (fun r15 u t H1 locs ht hvm hw hB hz1 hk1 hS => ?_)
      obtain ⟨v3, v4⟩ := u
      obtain ⟨hP1, hK1, hD1⟩ := hB
      rw [ht] at hP1
      have hK1 := va_K.moved hvm.symm hK1
      obtain ⟨hP, hD⟩ := va_join (wr := [(rf 18, .inl (c_there, 26, .inl v2)), (rf 25, .inl (c_rankOf, 106496, .inl g_rankOf))]) (w1 := [(h0, .inr (8, px_mf rf v3)), (rf 19, .inl (c_elements, 26, .inl v4))]) hP hD [0, 2] [1, 3] rfl rfl (by decide) (by decide) hk1 hFc hP1 hD1
      generalize H1 = H at hP hS ⊢
      have hP : va_P (dC, dI) vwCl [(rf 18, .inl (c_there, 26, .inl v2)), (rf 25, .inl (c_rankOf, 106496, .inl g_rankOf)), (h0, .inr (8, px_mf rf v3)), (rf 19, .inl (c_elements, 26, .inl v4))] H := hP
      have hD : va_D A [(rf 18, .inl (c_there, 26, .inl v2)), (rf 25, .inl (c_rankOf, 106496, .inl g_rankOf)), (h0, .inr (8, px_mf rf v3)), (rf 19, .inl (c_elements, 26, .inl v4))] := hD
      have hP := hP.sub (ws' := [(h0, .inr (8, px_mf rf v3)), (rf 18, .inl (c_there, 26, .inl v2)), (rf 19, .inl (c_elements, 26, .inl v4)), (rf 25, .inl (c_rankOf, 106496, .inl g_rankOf))]) [2, 0, 3, 1] rfl
      have hD := hD.sub (ws' := [(h0, .inr (8, px_mf rf v3)), (rf 18, .inl (c_there, 26, .inl v2)), (rf 19, .inl (c_elements, 26, .inl v4)), (rf 25, .inl (c_rankOf, 106496, .inl g_rankOf))]) [2, 0, 3, 1] (by decide) rfl
      refine lv_icmp_gt (tgt := 30) hx hb px_d121_18 (by decide) (fun c18 => ?_) (fun c18 => ?_)
      · have hw := hw.1 c18
        exact S30 a1x a2x v3 v2 v4 g_rankOf H locs ls hP hD hS (lv_sub hl [0, 1, 2] rfl) hw
      · have hw := hw.2 c18
        refine lv_aload_n hx hb px_d121_21 rfl (lv_at hl 0 rfl) ?_
        refine lv_iload_n hx hb px_d121_22 rfl (lv_at hl 1 rfl) ?_
        refine lv_iload_n hx hb px_d121_23 rfl (lv_at hl 2 rfl) ?_
        have hPc := hP.sub (ws' := [(h0, .inr (8, px_mf rf v3)), (rf 25, .inl (c_rankOf, 106496, .inl g_rankOf))]) [0, 3] rfl
        have hDc := hD.sub (ws' := [(h0, .inr (8, px_mf rf v3)), (rf 25, .inl (c_rankOf, 106496, .inl g_rankOf))]) [0, 3] (by decide) rfl
        have hKc := hK.sub (tys' := [(c_rankOf, .byte)]) [2] rfl
        have hFc := va_free (wc := [(h0, .inr (8, px_mf rf v3)), (rf 25, .inl (c_rankOf, 106496, .inl g_rankOf))]) hD hS hA [0, 3] rfl
        refine va_calli (va_runV (As := [.int a1x, .int a2x]) (rest := []) ⟨hx, hb, hml, hown, htw⟩ (w70_met l dC dI H.size h0 rf c_rankOf a1x a2x v3 g_rankOf _ hw) (cwV 2 htw (px_gv px_w561 px_w553 px_w554 px_w94 px_g70) rfl rfl rfl (by decide +kernel) ⟨Nat.le_of_ble_eq_true rfl, Nat.le_of_ble_eq_true rfl⟩) ⟨fun a U g mk q => by obtain ⟨q0, q1, qP, qK, qD, qN⟩ := q; exact ⟨q0, q1, qP, va_K.moved (u := U) (U := U.calling g mk a) (Vm.Alike.refl U.vm) qK, qD, qN.same rfl⟩, va_recv hK hP (ci := 8) (q0 := 0) rfl rfl, fun U hU hW => ⟨rfl, by rw [hU], by rw [hU]; exact hPc, va_K.moved hW.alike hKc, hDc.weaken (fun _ _ _ _ => trivial), hN.warm hW⟩⟩ rfl rfl hl.1 rfl (lv_room (Nat.le_of_ble_eq_true rfl)) px_d121_24 ⟨(Nat.le_of_ble_eq_true rfl), (Nat.le_of_ble_eq_true rfl)⟩) hS (fun q _ h => hFc q h) hFc (fun r24 u t H1 locs ht hvm hw hB hz1 hk1 hS => ?_)
        obtain ⟨v5, v6⟩ := u
        obtain ⟨hP1, hK1, hD1⟩ := hB
        rw [ht] at hP1
        have hK1 := va_K.moved hvm.symm hK1
        obtain ⟨hP, hD⟩ := va_join (wr := [(rf 18, .inl (c_there, 26, .inl v2)), (rf 19, .inl (c_elements, 26, .inl v4))]) (w1 := [(h0, .inr (8, px_mf rf v5)), (rf 25, .inl (c_rankOf, 106496, .inl v6))]) hP hD [0, 3] [1, 2] rfl rfl (by decide) (by decide) hk1 hFc hP1 hD1
        generalize H1 = H at hP hS ⊢
        have hP : va_P (dC, dI) vwCl [(rf 18, .inl (c_there, 26, .inl v2)), (rf 19, .inl (c_elements, 26, .inl v4)), (h0, .inr (8, px_mf rf v5)), (rf 25, .inl (c_rankOf, 106496, .inl v6))] H := hP
        have hD : va_D A [(rf 18, .inl (c_there, 26, .inl v2)), (rf 19, .inl (c_elements, 26, .inl v4)), (h0, .inr (8, px_mf rf v5)), (rf 25, .inl (c_rankOf, 106496, .inl v6))] := hD
        have hP := hP.sub (ws' := [(h0, .inr (8, px_mf rf v5)), (rf 18, .inl (c_there, 26, .inl v2)), (rf 19, .inl (c_elements, 26, .inl v4)), (rf 25, .inl (c_rankOf, 106496, .inl v6))]) [2, 0, 1, 3] rfl
        have hD := hD.sub (ws' := [(h0, .inr (8, px_mf rf v5)), (rf 18, .inl (c_there, 26, .inl v2)), (rf 19, .inl (c_elements, 26, .inl v4)), (rf 25, .inl (c_rankOf, 106496, .inl v6))]) [2, 0, 1, 3] (by decide) rfl
        refine lv_goto (tgt := 31) hx hb px_d121_27 (by decide) ?_
        exact S31 a1x a2x r24 v5 v2 v4 v6 H locs ls hP hD hS (lv_sub hl [0, 1, 2] rfl) hw

/-! MatroidDeskModel.count(II)I -/
def w122_L27 (post : Int32 → (Nat → Int32) → (Nat → Int32) → (Nat → Int32) → (Nat → Int32) → (Nat → Int32) → (Nat → Int32) → Prop) (x1 : Int32) (x2 : Int32) (y0 : Int32) (iv : Nat → Int32) (g_there : Nat → Int32) (g_elements : Nat → Int32) (g_ranks : Nat → Int32) (g_rankOf : Nat → Int32) (g_sizes : Nat → Int32) : Prop := post y0 iv g_there g_elements g_ranks g_rankOf g_sizes
def w122_L26 (post : Int32 → (Nat → Int32) → (Nat → Int32) → (Nat → Int32) → (Nat → Int32) → (Nat → Int32) → (Nat → Int32) → Prop) (x1 : Int32) (x2 : Int32) (iv : Nat → Int32) (g_there : Nat → Int32) (g_elements : Nat → Int32) (g_ranks : Nat → Int32) (g_rankOf : Nat → Int32) (g_sizes : Nat → Int32) : Prop := w122_L27 post x1 x2 (-1) iv g_there g_elements g_ranks g_rankOf g_sizes
def w122_wp (post : Int32 → (Nat → Int32) → (Nat → Int32) → (Nat → Int32) → (Nat → Int32) → (Nat → Int32) → (Nat → Int32) → Prop) (a1x : Int32) (a2x : Int32) (iv : Nat → Int32) (g_there : Nat → Int32) (g_elements : Nat → Int32) (g_ranks : Nat → Int32) (g_rankOf : Nat → Int32) (g_sizes : Nat → Int32) : Prop := w118_wp (fun r2 v1 v2 => (r2 = 0 → w122_L26 post a1x a2x v1 v2 g_elements g_ranks g_rankOf g_sizes) ∧ (¬ r2 = 0 → (a2x < 0 → w122_L26 post a1x a2x v1 v2 g_elements g_ranks g_rankOf g_sizes) ∧ (¬ a2x < 0 → (3 < a2x → w122_L26 post a1x a2x v1 v2 g_elements g_ranks g_rankOf g_sizes) ∧ (¬ 3 < a2x → w77_wp (fun r20 v3 v4 v5 v6 v7 => w122_L27 post a1x a2x r20 v3 v2 v4 v5 v6 v7) a1x a2x v1 g_elements g_ranks g_rankOf g_sizes)))) a1x iv g_there
set_option maxHeartbeats 8000000 in
set_option maxRecDepth 100000 in
theorem w122_met (l : Launch) (dC : Nat → ClassId) (dI : Nat → Nat → Nat) (sz : Nat) (h0 : Nat) (rf : Nat → Nat) (c_there : ClassId) (c_elements : ClassId) (c_ranks : ClassId) (c_rankOf : ClassId) (c_sizes : ClassId) (a1x : Int32) (a2x : Int32) (iv : Nat → Int32) (g_there : Nat → Int32) (g_elements : Nat → Int32) (g_ranks : Nat → Int32) (g_rankOf : Nat → Int32) (g_sizes : Nat → Int32) (post : Int32 → (Nat → Int32) → (Nat → Int32) → (Nat → Int32) → (Nat → Int32) → (Nat → Int32) → (Nat → Int32) → Prop) (hw : w122_wp post a1x a2x iv g_there g_elements g_ranks g_rankOf g_sizes) : Met l px_y122 px_s122 ({ frames := 5, cells := 0, slots := 0, locals := 117 }) (va_Pc [.ref h0, .int a1x, .int a2x] (fun U => U.heap.size = sz ∧ va_P (dC, dI) vwCl [(h0, .inr (8, px_mf rf iv)), (rf 18, .inl (c_there, 26, .inl g_there)), (rf 19, .inl (c_elements, 26, .inl g_elements)), (rf 21, .inl (c_ranks, 26, .inl g_ranks)), (rf 25, .inl (c_rankOf, 106496, .inl g_rankOf)), (rf 28, .inl (c_sizes, 4096, .inl g_sizes))] U.heap ∧ va_K (dC, dI) vwCl [(c_there, .boolean), (c_elements, .int), (c_ranks, .int), (c_rankOf, .byte), (c_sizes, .int)] U ∧ va_D (fun _ => True) [(h0, .inr (8, px_mf rf iv)), (rf 18, .inl (c_there, 26, .inl g_there)), (rf 19, .inl (c_elements, 26, .inl g_elements)), (rf 21, .inl (c_ranks, 26, .inl g_ranks)), (rf 25, .inl (c_rankOf, 106496, .inl g_rankOf)), (rf 28, .inl (c_sizes, 4096, .inl g_sizes))] ∧ px_N U)) (va_Qi (fun (r : Int32) (u : (Nat → Int32) × (Nat → Int32) × (Nat → Int32) × (Nat → Int32) × (Nat → Int32) × (Nat → Int32)) => post r u.1 u.2.1 u.2.2.1 u.2.2.2.1 u.2.2.2.2.1 u.2.2.2.2.2) (fun (u : (Nat → Int32) × (Nat → Int32) × (Nat → Int32) × (Nat → Int32) × (Nat → Int32) × (Nat → Int32)) (t : State) => va_P (dC, dI) vwCl [(h0, .inr (8, px_mf rf u.1)), (rf 18, .inl (c_there, 26, .inl u.2.1)), (rf 19, .inl (c_elements, 26, .inl u.2.2.1)), (rf 21, .inl (c_ranks, 26, .inl u.2.2.2.1)), (rf 25, .inl (c_rankOf, 106496, .inl u.2.2.2.2.1)), (rf 28, .inl (c_sizes, 4096, .inl u.2.2.2.2.2))] t.heap ∧ va_K (dC, dI) vwCl [(c_there, .boolean), (c_elements, .int), (c_ranks, .int), (c_rankOf, .byte), (c_sizes, .int)] t ∧ va_D (va_A [(h0, .inr (8, px_mf rf iv)), (rf 18, .inl (c_there, 26, .inl g_there)), (rf 19, .inl (c_elements, 26, .inl g_elements)), (rf 21, .inl (c_ranks, 26, .inl g_ranks)), (rf 25, .inl (c_rankOf, 106496, .inl g_rankOf)), (rf 28, .inl (c_sizes, 4096, .inl g_sizes))] sz) [(h0, .inr (8, px_mf rf u.1)), (rf 18, .inl (c_there, 26, .inl u.2.1)), (rf 19, .inl (c_elements, 26, .inl u.2.2.1)), (rf 21, .inl (c_ranks, 26, .inl u.2.2.2.1)), (rf 25, .inl (c_rankOf, 106496, .inl u.2.2.2.2.1)), (rf 28, .inl (c_sizes, 4096, .inl u.2.2.2.2.2))]) (va_A [(h0, .inr (8, px_mf rf iv)), (rf 18, .inl (c_there, 26, .inl g_there)), (rf 19, .inl (c_elements, 26, .inl g_elements)), (rf 21, .inl (c_ranks, 26, .inl g_ranks)), (rf 25, .inl (c_rankOf, 106496, .inl g_rankOf)), (rf 28, .inl (c_sizes, 4096, .inl g_sizes))] sz)) 0 0 (va_A [(h0, .inr (8, px_mf rf iv)), (rf 18, .inl (c_there, 26, .inl g_there)), (rf 19, .inl (c_elements, 26, .inl g_elements)), (rf 21, .inl (c_ranks, 26, .inl g_ranks)), (rf 25, .inl (c_rankOf, 106496, .inl g_rankOf)), (rf 28, .inl (c_sizes, 4096, .inl g_sizes))] sz) := by
  refine Met.ofW (cc := prog_15_method_101_code) (maxL := 3) (ret := (some .int)) (by decide) rfl ?_
  intro p e s m args below meth c s₁ B hml hv
  obtain ⟨rfl, hsz, hP, hK, hD0, hN⟩ := hv
  have hx := B.exec
  have hb := B.bytes
  have hr := B.returns
  have htw : ∀ w ∈ px_all, w.before _ s = true := fun w h => atoms_spec (ws := px_s122) B.pre w (List.mem_cons_of_mem _ h)
  have hown : s.vm.findClass "MatroidDeskModel" = some m.cls := findClass_of_methodNamed B.named
  have hlocks := B.notSynchronized
  subst hsz
  have hD := hD0.self (sz := s.heap.size)
  generalize hAe : va_A [(h0, .inr (8, px_mf rf iv)), (rf 18, .inl (c_there, 26, .inl g_there)), (rf 19, .inl (c_elements, 26, .inl g_elements)), (rf 21, .inl (c_ranks, 26, .inl g_ranks)), (rf 25, .inl (c_rankOf, 106496, .inl g_rankOf)), (rf 28, .inl (c_sizes, 4096, .inl g_sizes))] s.heap.size = A at hD ⊢
  have hA : ∀ q : Nat, s.heap.size ≤ q → A q := fun q h => by rw [← hAe]; exact Or.inr h
  have hS : va_S A s.heap s.heap [] := va_S.rf
  have hP : va_P (dC, dI) vwCl [(h0, .inr (8, px_mf rf iv)), (rf 18, .inl (c_there, 26, .inl g_there)), (rf 19, .inl (c_elements, 26, .inl g_elements)), (rf 21, .inl (c_ranks, 26, .inl g_ranks)), (rf 25, .inl (c_rankOf, 106496, .inl g_rankOf)), (rf 28, .inl (c_sizes, 4096, .inl g_sizes))] s.heap := hP
  have hl := lv_entry ([.ref h0, .int a1x, .int a2x]) (n := 3) (Nat.le_of_ble_eq_true rfl)
  rw [lg_entry_eq]
  generalize (lg_sl ([.ref h0, .int a1x, .int a2x]) ++ List.replicate (3 - (lg_sl ([.ref h0, .int a1x, .int a2x])).length) Slot.unset).toArray = ls at hl ⊢
  have hl : lv_has ls 3 [(0, .ref h0), (1, .int a1x), (2, .int a2x)] := hl
  generalize hQ : MQ _ _ _ _ _ _ _ = Q
  have S27 : ∀ (x1 : Int32) (x2 : Int32) (y0 : Int32) (iv : Nat → Int32) (g_there : Nat → Int32) (g_elements : Nat → Int32) (g_ranks : Nat → Int32) (g_rankOf : Nat → Int32) (g_sizes : Nat → Int32) (H : Heap) (locs : List Loc) (ls : Array Slot), va_P (dC, dI) vwCl [(h0, .inr (8, px_mf rf iv)), (rf 18, .inl (c_there, 26, .inl g_there)), (rf 19, .inl (c_elements, 26, .inl g_elements)), (rf 21, .inl (c_ranks, 26, .inl g_ranks)), (rf 25, .inl (c_rankOf, 106496, .inl g_rankOf)), (rf 28, .inl (c_sizes, 4096, .inl g_sizes))] H → va_D A [(h0, .inr (8, px_mf rf iv)), (rf 18, .inl (c_there, 26, .inl g_there)), (rf 19, .inl (c_elements, 26, .inl g_elements)), (rf 21, .inl (c_ranks, 26, .inl g_ranks)), (rf 25, .inl (c_rankOf, 106496, .inl g_rankOf)), (rf 28, .inl (c_sizes, 4096, .inl g_sizes))] → va_S A s.heap H locs → lv_has ls 3 [(0, .ref h0), (1, .int x1), (2, .int x2)] → w122_L27 post x1 x2 y0 iv g_there g_elements g_ranks g_rankOf g_sizes → W p l e (headSpec px_s122 ({ frames := 5, cells := 0, slots := 0, locals := 117 })).room s m ([.ref h0, .int a1x, .int a2x]).toArray below meth c H locs 0 0 Q (F0 m 27 ls [.int y0]) := by
    intro x1 x2 y0 iv g_there g_elements g_ranks g_rankOf g_sizes H locs ls hP hD hS hl hw
    unfold w122_L27 at hw
    rw [← hQ]
    exact W.iret (v := y0) hx hb hr (fun t ht hW => ⟨⟨y0, (iv, g_there, g_elements, g_ranks, g_rankOf, g_sizes), rfl, hw, by rw [ht]; exact hP, va_K.moved hW.alike hK, hD⟩, hS.F ht⟩) hS.2.2 px_d122_27
  have S26 : ∀ (x1 : Int32) (x2 : Int32) (iv : Nat → Int32) (g_there : Nat → Int32) (g_elements : Nat → Int32) (g_ranks : Nat → Int32) (g_rankOf : Nat → Int32) (g_sizes : Nat → Int32) (H : Heap) (locs : List Loc) (ls : Array Slot), va_P (dC, dI) vwCl [(h0, .inr (8, px_mf rf iv)), (rf 18, .inl (c_there, 26, .inl g_there)), (rf 19, .inl (c_elements, 26, .inl g_elements)), (rf 21, .inl (c_ranks, 26, .inl g_ranks)), (rf 25, .inl (c_rankOf, 106496, .inl g_rankOf)), (rf 28, .inl (c_sizes, 4096, .inl g_sizes))] H → va_D A [(h0, .inr (8, px_mf rf iv)), (rf 18, .inl (c_there, 26, .inl g_there)), (rf 19, .inl (c_elements, 26, .inl g_elements)), (rf 21, .inl (c_ranks, 26, .inl g_ranks)), (rf 25, .inl (c_rankOf, 106496, .inl g_rankOf)), (rf 28, .inl (c_sizes, 4096, .inl g_sizes))] → va_S A s.heap H locs → lv_has ls 3 [(0, .ref h0), (1, .int x1), (2, .int x2)] → w122_L26 post x1 x2 iv g_there g_elements g_ranks g_rankOf g_sizes → W p l e (headSpec px_s122 ({ frames := 5, cells := 0, slots := 0, locals := 117 })).room s m ([.ref h0, .int a1x, .int a2x]).toArray below meth c H locs 0 0 Q (F0 m 26 ls []) := by
    intro x1 x2 iv g_there g_elements g_ranks g_rankOf g_sizes H locs ls hP hD hS hl hw
    unfold w122_L26 at hw
    refine lv_iconst (v := (-1)) hx hb px_d122_26 (by decide) ?_
    exact S27 x1 x2 (-1) iv g_there g_elements g_ranks g_rankOf g_sizes H locs ls hP hD hS (lv_sub hl [0, 1, 2] rfl) hw
  unfold w122_wp at hw
  have hS0 := hS
  obtain ⟨H, hH9⟩ : ∃ z, z = s.heap := ⟨_, rfl⟩
  have hP : va_P (dC, dI) vwCl [(h0, .inr (8, px_mf rf iv)), (rf 18, .inl (c_there, 26, .inl g_there)), (rf 19, .inl (c_elements, 26, .inl g_elements)), (rf 21, .inl (c_ranks, 26, .inl g_ranks)), (rf 25, .inl (c_rankOf, 106496, .inl g_rankOf)), (rf 28, .inl (c_sizes, 4096, .inl g_sizes))] H := by rw [hH9]; exact hP
  obtain ⟨locs, hlo9⟩ : ∃ z : List Loc, z = [] := ⟨_, rfl⟩
  have hS : va_S A s.heap H locs := by rw [hH9, hlo9]; exact hS
  suffices hG : W p l e (headSpec px_s122 ({ frames := 5, cells := 0, slots := 0, locals := 117 })).room s m ([.ref h0, .int a1x, .int a2x]).toArray below meth c H locs 0 0 Q (F0 m 0 ls []) by rw [hH9, hlo9] at hG; exact hG
  refine lv_aload_n hx hb px_d122_0 rfl (lv_at hl 0 rfl) ?_
  refine lv_iload_n hx hb px_d122_1 rfl (lv_at hl 1 rfl) ?_
  have hPc := hP.sub (ws' := [(h0, .inr (8, px_mf rf iv)), (rf 18, .inl (c_there, 26, .inl g_there))]) [0, 1] rfl
  have hDc := hD.sub (ws' := [(h0, .inr (8, px_mf rf iv)), (rf 18, .inl (c_there, 26, .inl g_there))]) [0, 1] (by decide) rfl
  have hKc := hK.sub (tys' := [(c_there, .boolean)]) [0] rfl
  have hFc := va_free (wc := [(h0, .inr (8, px_mf rf iv)), (rf 18, .inl (c_there, 26, .inl g_there))]) hD hS hA [0, 1] rfl
  refine va_calli (va_runV (As := [.int a1x]) (rest := []) ⟨hx, hb, hml, hown, htw⟩ (w118_met l dC dI H.size h0 rf c_there a1x iv g_there _ hw) (cwV 1 htw (px_gv px_w764 px_w759 px_w760 px_w94 px_g118) rfl rfl rfl (by decide +kernel) ⟨Nat.le_of_ble_eq_true rfl, Nat.le_of_ble_eq_true rfl⟩) ⟨fun a U g mk q => by obtain ⟨q0, q1, qP, qK, qD, qN⟩ := q; exact ⟨q0, q1, qP, va_K.moved (u := U) (U := U.calling g mk a) (Vm.Alike.refl U.vm) qK, qD, qN.same rfl⟩, va_recv hK hP (ci := 8) (q0 := 0) rfl rfl, fun U hU hW => ⟨rfl, by rw [hU], by rw [hU]; exact hPc, va_K.moved hW.alike hKc, hDc.weaken (fun _ _ _ _ => trivial), hN.warm hW⟩⟩ rfl rfl hl.1 rfl (lv_room (Nat.le_of_ble_eq_true rfl)) px_d122_2 ⟨(Nat.le_of_ble_eq_true rfl), (Nat.le_of_ble_eq_true rfl)⟩) hS (fun q _ h => hFc q h) hFc (fun r2 u t H1 locs ht hvm hw hB hz1 hk1 hS => ?_)
  obtain ⟨v1, v2⟩ := u
  obtain ⟨hP1, hK1, hD1⟩ := hB
  rw [ht] at hP1
  have hK1 := va_K.moved hvm.symm hK1
  obtain ⟨hP, hD⟩ := va_join (wr := [(rf 19, .inl (c_elements, 26, .inl g_elements)), (rf 21, .inl (c_ranks, 26, .inl g_ranks)), (rf 25, .inl (c_rankOf, 106496, .inl g_rankOf)), (rf 28, .inl (c_sizes, 4096, .inl g_sizes))]) (w1 := [(h0, .inr (8, px_mf rf v1)), (rf 18, .inl (c_there, 26, .inl v2))]) hP hD [0, 1] [2, 3, 4, 5] rfl rfl (by decide) (by decide) hk1 hFc hP1 hD1
  generalize H1 = H at hP hS ⊢
  have hP : va_P (dC, dI) vwCl [(rf 19, .inl (c_elements, 26, .inl g_elements)), (rf 21, .inl (c_ranks, 26, .inl g_ranks)), (rf 25, .inl (c_rankOf, 106496, .inl g_rankOf)), (rf 28, .inl (c_sizes, 4096, .inl g_sizes)), (h0, .inr (8, px_mf rf v1)), (rf 18, .inl (c_there, 26, .inl v2))] H := hP
  have hD : va_D A [(rf 19, .inl (c_elements, 26, .inl g_elements)), (rf 21, .inl (c_ranks, 26, .inl g_ranks)), (rf 25, .inl (c_rankOf, 106496, .inl g_rankOf)), (rf 28, .inl (c_sizes, 4096, .inl g_sizes)), (h0, .inr (8, px_mf rf v1)), (rf 18, .inl (c_there, 26, .inl v2))] := hD
  have hP := hP.sub (ws' := [(h0, .inr (8, px_mf rf v1)), (rf 18, .inl (c_there, 26, .inl v2)), (rf 19, .inl (c_elements, 26, .inl g_elements)), (rf 21, .inl (c_ranks, 26, .inl g_ranks)), (rf 25, .inl (c_rankOf, 106496, .inl g_rankOf)), (rf 28, .inl (c_sizes, 4096, .inl g_sizes))]) [4, 5, 0, 1, 2, 3] rfl
  have hD := hD.sub (ws' := [(h0, .inr (8, px_mf rf v1)), (rf 18, .inl (c_there, 26, .inl v2)), (rf 19, .inl (c_elements, 26, .inl g_elements)), (rf 21, .inl (c_ranks, 26, .inl g_ranks)), (rf 25, .inl (c_rankOf, 106496, .inl g_rankOf)), (rf 28, .inl (c_sizes, 4096, .inl g_sizes))]) [4, 5, 0, 1, 2, 3] (by decide) rfl
  refine lv_if_eq (tgt := 26) hx hb px_d122_5 (by decide) (fun c5 => ?_) (fun c5 => ?_)
  · have hw := hw.1 c5
    exact S26 a1x a2x v1 v2 g_elements g_ranks g_rankOf g_sizes H locs ls hP hD hS (lv_sub hl [0, 1, 2] rfl) hw
  · have hw := hw.2 c5
    refine lv_iload_n hx hb px_d122_8 rfl (lv_at hl 2 rfl) ?_
    refine lv_if_lt (tgt := 26) hx hb px_d122_9 (by decide) (fun c9 => ?_) (fun c9 => ?_)
    · have hw := hw.1 c9
      exact S26 a1x a2x v1 v2 g_elements g_ranks g_rankOf g_sizes H locs ls hP hD hS (lv_sub hl [0, 1, 2] rfl) hw
    · have hw := hw.2 c9
      refine lv_iload_n hx hb px_d122_12 rfl (lv_at hl 2 rfl) ?_
      refine lv_iconst (v := 3) hx hb px_d122_13 (by decide) ?_
      refine lv_icmp_gt (tgt := 26) hx hb px_d122_14 (by decide) (fun c14 => ?_) (fun c14 => ?_)
      · have hw := hw.1 c14
        exact S26 a1x a2x v1 v2 g_elements g_ranks g_rankOf g_sizes H locs ls hP hD hS (lv_sub hl [0, 1, 2] rfl) hw
      · have hw := hw.2 c14
        refine lv_aload_n hx hb px_d122_17 rfl (lv_at hl 0 rfl) ?_
        refine lv_iload_n hx hb px_d122_18 rfl (lv_at hl 1 rfl) ?_
        refine lv_iload_n hx hb px_d122_19 rfl (lv_at hl 2 rfl) ?_
        have hPc := hP.sub (ws' := [(h0, .inr (8, px_mf rf v1)), (rf 19, .inl (c_elements, 26, .inl g_elements)), (rf 21, .inl (c_ranks, 26, .inl g_ranks)), (rf 25, .inl (c_rankOf, 106496, .inl g_rankOf)), (rf 28, .inl (c_sizes, 4096, .inl g_sizes))]) [0, 2, 3, 4, 5] rfl
        have hDc := hD.sub (ws' := [(h0, .inr (8, px_mf rf v1)), (rf 19, .inl (c_elements, 26, .inl g_elements)), (rf 21, .inl (c_ranks, 26, .inl g_ranks)), (rf 25, .inl (c_rankOf, 106496, .inl g_rankOf)), (rf 28, .inl (c_sizes, 4096, .inl g_sizes))]) [0, 2, 3, 4, 5] (by decide) rfl
        have hKc := hK.sub (tys' := [(c_elements, .int), (c_ranks, .int), (c_rankOf, .byte), (c_sizes, .int)]) [1, 2, 3, 4] rfl
        have hFc := va_free (wc := [(h0, .inr (8, px_mf rf v1)), (rf 19, .inl (c_elements, 26, .inl g_elements)), (rf 21, .inl (c_ranks, 26, .inl g_ranks)), (rf 25, .inl (c_rankOf, 106496, .inl g_rankOf)), (rf 28, .inl (c_sizes, 4096, .inl g_sizes))]) hD hS hA [0, 2, 3, 4, 5] rfl
        refine va_calli (va_runV (As := [.int a1x, .int a2x]) (rest := []) ⟨hx, hb, hml, hown, htw⟩ (w77_met l dC dI H.size h0 rf c_elements c_ranks c_rankOf c_sizes a1x a2x v1 g_elements g_ranks g_rankOf g_sizes _ hw) (cwV 2 htw (px_gv px_w774 px_w580 px_w581 px_w94 px_g77) rfl rfl rfl (by decide +kernel) ⟨Nat.le_of_ble_eq_true rfl, Nat.le_of_ble_eq_true rfl⟩) ⟨fun a U g mk q => by obtain ⟨q0, q1, qP, qK, qD, qN⟩ := q; exact ⟨q0, q1, qP, va_K.moved (u := U) (U := U.calling g mk a) (Vm.Alike.refl U.vm) qK, qD, qN.same rfl⟩, va_recv hK hP (ci := 8) (q0 := 0) rfl rfl, fun U hU hW => ⟨rfl, by rw [hU], by rw [hU]; exact hPc, va_K.moved hW.alike hKc, hDc.weaken (fun _ _ _ _ => trivial), hN.warm hW⟩⟩ rfl rfl hl.1 rfl (lv_room (Nat.le_of_ble_eq_true rfl)) px_d122_20 ⟨(Nat.le_of_ble_eq_true rfl), (Nat.le_of_ble_eq_true rfl)⟩) hS (fun q _ h => hFc q h) hFc (fun r20 u t H1 locs ht hvm hw hB hz1 hk1 hS => ?_)
        obtain ⟨v3, v4, v5, v6, v7⟩ := u
        obtain ⟨hP1, hK1, hD1⟩ := hB
        rw [ht] at hP1
        have hK1 := va_K.moved hvm.symm hK1
        obtain ⟨hP, hD⟩ := va_join (wr := [(rf 18, .inl (c_there, 26, .inl v2))]) (w1 := [(h0, .inr (8, px_mf rf v3)), (rf 19, .inl (c_elements, 26, .inl v4)), (rf 21, .inl (c_ranks, 26, .inl v5)), (rf 25, .inl (c_rankOf, 106496, .inl v6)), (rf 28, .inl (c_sizes, 4096, .inl v7))]) hP hD [0, 2, 3, 4, 5] [1] rfl rfl (by decide) (by decide) hk1 hFc hP1 hD1
        generalize H1 = H at hP hS ⊢
        have hP : va_P (dC, dI) vwCl [(rf 18, .inl (c_there, 26, .inl v2)), (h0, .inr (8, px_mf rf v3)), (rf 19, .inl (c_elements, 26, .inl v4)), (rf 21, .inl (c_ranks, 26, .inl v5)), (rf 25, .inl (c_rankOf, 106496, .inl v6)), (rf 28, .inl (c_sizes, 4096, .inl v7))] H := hP
        have hD : va_D A [(rf 18, .inl (c_there, 26, .inl v2)), (h0, .inr (8, px_mf rf v3)), (rf 19, .inl (c_elements, 26, .inl v4)), (rf 21, .inl (c_ranks, 26, .inl v5)), (rf 25, .inl (c_rankOf, 106496, .inl v6)), (rf 28, .inl (c_sizes, 4096, .inl v7))] := hD
        have hP := hP.sub (ws' := [(h0, .inr (8, px_mf rf v3)), (rf 18, .inl (c_there, 26, .inl v2)), (rf 19, .inl (c_elements, 26, .inl v4)), (rf 21, .inl (c_ranks, 26, .inl v5)), (rf 25, .inl (c_rankOf, 106496, .inl v6)), (rf 28, .inl (c_sizes, 4096, .inl v7))]) [1, 0, 2, 3, 4, 5] rfl
        have hD := hD.sub (ws' := [(h0, .inr (8, px_mf rf v3)), (rf 18, .inl (c_there, 26, .inl v2)), (rf 19, .inl (c_elements, 26, .inl v4)), (rf 21, .inl (c_ranks, 26, .inl v5)), (rf 25, .inl (c_rankOf, 106496, .inl v6)), (rf 28, .inl (c_sizes, 4096, .inl v7))]) [1, 0, 2, 3, 4, 5] (by decide) rfl
        refine lv_goto (tgt := 27) hx hb px_d122_23 (by decide) ?_
        exact S27 a1x a2x r20 v3 v2 v4 v5 v6 v7 H locs ls hP hD hS (lv_sub hl [0, 1, 2] rfl) hw

