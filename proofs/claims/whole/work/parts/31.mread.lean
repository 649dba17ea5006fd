def mlk_L18 (post : Int32 → (Nat → Int32) → (Nat → Int32) → Prop) (x1 : Int32) (y0 : Int32) (iv : Nat → Int32) (g_text : Nat → Int32) : Prop := post y0 iv g_text
def mlk_wp (post : Int32 → (Nat → Int32) → (Nat → Int32) → Prop) (i : Int32) (iv : Nat → Int32) (g_text : Nat → Int32) : Prop := ((iv 37) ≤ i → mlk_L18 post i (-1) iv g_text) ∧ (¬ (iv 37) ≤ i → vp_in i 16384 ∧ (mlk_L18 post i (g_text (Int32.toNatClampNeg i)) iv g_text))
set_option maxHeartbeats 8000000 in
set_option maxRecDepth 100000 in
theorem mlk_met (l : Launch) (dC : Nat → ClassId) (dI : Nat → Nat → Nat) (sz : Nat) (h0 : Nat) (rf : Nat → Nat) (c_text : ClassId) (i : Int32) (iv : Nat → Int32) (g_text : Nat → Int32) (post : Int32 → (Nat → Int32) → (Nat → Int32) → Prop) (hw : mlk_wp post i iv g_text) : Met l px_y22 px_s22 ({ frames := 0, cells := 0, slots := 0, locals := 0 }) (va_Pc [.ref h0, .int i] (fun U => U.heap.size = sz ∧ va_P (dC, dI) vwCl [(h0, .inr (8, px_mf rf iv)), (rf 36, .inl (c_text, 16384, .inl g_text))] U.heap ∧ va_K (dC, dI) vwCl [(c_text, .byte)] U ∧ va_D (fun _ => True) [(h0, .inr (8, px_mf rf iv)), (rf 36, .inl (c_text, 16384, .inl g_text))] ∧ px_N U)) (va_Qi (fun (r : Int32) (u : (Nat → Int32) × (Nat → Int32)) => post r u.1 u.2) (fun (u : (Nat → Int32) × (Nat → Int32)) (t : State) => va_P (dC, dI) vwCl [(h0, .inr (8, px_mf rf u.1)), (rf 36, .inl (c_text, 16384, .inl u.2))] t.heap ∧ va_K (dC, dI) vwCl [(c_text, .byte)] t ∧ va_D (va_A [(h0, .inr (8, px_mf rf iv)), (rf 36, .inl (c_text, 16384, .inl g_text))] sz) [(h0, .inr (8, px_mf rf u.1)), (rf 36, .inl (c_text, 16384, .inl u.2))]) (va_A [(h0, .inr (8, px_mf rf iv)), (rf 36, .inl (c_text, 16384, .inl g_text))] sz)) 0 0 (va_A [(h0, .inr (8, px_mf rf iv)), (rf 36, .inl (c_text, 16384, .inl g_text))] sz) := by
  refine Met.ofW (cc := prog_15_method_50_code) (maxL := 2) (ret := (some .int)) (by decide) rfl ?_
  intro p e s m args below meth c s₁ B hml hv
  obtain ⟨rfl, hsz, hP, hK, hD0, hN⟩ := hv
  have hx := B.exec
  have hb := B.bytes
  have hr := B.returns
  have htw : ∀ w ∈ px_all, w.before _ s = true := fun w h => atoms_spec (ws := px_s22) B.pre w (List.mem_cons_of_mem _ h)
  have hown : s.vm.findClass "MatroidDeskModel" = some m.cls := findClass_of_methodNamed B.named
  have hlocks := B.notSynchronized
  subst hsz
  have hD := hD0.self (sz := s.heap.size)
  generalize hAe : va_A [(h0, .inr (8, px_mf rf iv)), (rf 36, .inl (c_text, 16384, .inl g_text))] s.heap.size = A at hD ⊢
  have hA : ∀ q : Nat, s.heap.size ≤ q → A q := fun q h => by rw [← hAe]; exact Or.inr h
  have hS : va_S A s.heap s.heap [] := va_S.rf
  have hP : va_P (dC, dI) vwCl [(h0, .inr (8, px_mf rf iv)), (rf 36, .inl (c_text, 16384, .inl g_text))] s.heap := hP
  have hl := lv_entry ([.ref h0, .int i]) (n := 2) (Nat.le_of_ble_eq_true rfl)
  rw [lg_entry_eq]
  generalize (lg_sl ([.ref h0, .int i]) ++ List.replicate (2 - (lg_sl ([.ref h0, .int i])).length) Slot.unset).toArray = ls at hl ⊢
  have hl : lv_has ls 2 [(0, .ref h0), (1, .int i)] := hl
  generalize hQ : MQ _ _ _ _ _ _ _ = Q
  have S18 : ∀ (x1 : Int32) (y0 : Int32) (iv : Nat → Int32) (g_text : Nat → Int32) (H : Heap) (locs : List Loc) (ls : Array Slot), va_P (dC, dI) vwCl [(h0, .inr (8, px_mf rf iv)), (rf 36, .inl (c_text, 16384, .inl g_text))] H → va_D A [(h0, .inr (8, px_mf rf iv)), (rf 36, .inl (c_text, 16384, .inl g_text))] → va_S A s.heap H locs → lv_has ls 2 [(0, .ref h0), (1, .int x1)] → mlk_L18 post x1 y0 iv g_text → W p l e (headSpec px_s22 ({ frames := 0, cells := 0, slots := 0, locals := 0 })).room s m ([.ref h0, .int i]).toArray below meth c H locs 0 0 Q (F0 m 18 ls [.int y0]) := by
    intro x1 y0 iv g_text H locs ls hP hD hS hl hw
    unfold mlk_L18 at hw
    rw [← hQ]
    exact W.iret (v := y0) hx hb hr (fun t ht hW => ⟨⟨y0, (iv, g_text), rfl, hw, by rw [ht]; exact hP, va_K.moved hW.alike hK, hD⟩, hS.F ht⟩) hS.2.2 px_d22_18
  unfold mlk_wp at hw
  have hS0 := hS
  obtain ⟨H, hH9⟩ : ∃ z, z = s.heap := ⟨_, rfl⟩
  have hP : va_P (dC, dI) vwCl [(h0, .inr (8, px_mf rf iv)), (rf 36, .inl (c_text, 16384, .inl g_text))] H := by rw [hH9]; exact hP
  obtain ⟨locs, hlo9⟩ : ∃ z : List Loc, z = [] := ⟨_, rfl⟩
  have hS : va_S A s.heap H locs := by rw [hH9, hlo9]; exact hS
  suffices hG : W p l e (headSpec px_s22 ({ frames := 0, cells := 0, slots := 0, locals := 0 })).room s m ([.ref h0, .int i]).toArray below meth c H locs 0 0 Q (F0 m 0 ls []) by rw [hH9, hlo9] at hG; exact hG
  refine lv_iload_n hx hb px_d22_0 rfl (lv_at hl 1 rfl) ?_
  refine lv_aload_n hx hb px_d22_1 rfl (lv_at hl 0 rfl) ?_
  refine va_get (D := (dC, dI)) (ci := 8) (v := .int (iv 37)) (C := "MatroidDeskModel") (T := px_T8) (N := 53) hx hb htw px_in8 hown hK hP 0 rfl rfl 37 (by decide) (htw _ px_w319) (fun _ h9 => h9) rfl px_d22_2 ?_
  refine lv_icmp_ge (tgt := 17) hx hb px_d22_5 (by decide) (fun c5 => ?_) (fun c5 => ?_)
  · have hw := hw.1 c5
    refine lv_iconst (v := (-1)) hx hb px_d22_17 (by decide) ?_
    exact S18 i (-1) iv g_text H locs ls hP hD hS (lv_sub hl [0, 1] rfl) hw
  · have hw := hw.2 c5
    refine lv_aload_n hx hb px_d22_8 rfl (lv_at hl 0 rfl) ?_
    refine va_get (D := (dC, dI)) (ci := 8) (v := .ref (rf 36)) (C := "MatroidDeskModel") (T := px_T8) (N := 53) hx hb htw px_in8 hown hK hP 0 rfl rfl 36 (by decide) (htw _ px_w320) (fun _ h9 => h9) rfl px_d22_9 ?_
    refine lv_iload_n hx hb px_d22_12 rfl (lv_at hl 1 rfl) ?_
    obtain ⟨hi13, hw⟩ := hw
    refine va_bald hx hb hK hP 1 0 rfl rfl hi13 px_d22_13 ?_
    refine lv_goto (tgt := 18) hx hb px_d22_14 (by decide) ?_
    exact S18 i (g_text (Int32.toNatClampNeg i)) iv g_text H locs ls hP hD hS (lv_sub hl [0, 1] rfl) hw

def mth_wp (post : Int32 → (Nat → Int32) → Prop) (iv : Nat → Int32) : Prop := post (iv 49) iv
set_option maxHeartbeats 8000000 in
set_option maxRecDepth 100000 in
theorem mth_met (l : Launch) (dC : Nat → ClassId) (dI : Nat → Nat → Nat) (sz : Nat) (h0 : Nat) (rf : Nat → Nat) (iv : Nat → Int32) (post : Int32 → (Nat → Int32) → Prop) (hw : mth_wp post iv) : Met l px_y38 px_s38 ({ frames := 0, cells := 0, slots := 0, locals := 0 }) (va_Pc [.ref h0] (fun U => U.heap.size = sz ∧ va_P (dC, dI) vwCl [(h0, .inr (8, px_mf rf iv))] U.heap ∧ va_K (dC, dI) vwCl [] U ∧ va_D (fun _ => True) [(h0, .inr (8, px_mf rf iv))] ∧ px_N U)) (va_Qi (fun (r : Int32) (u : (Nat → Int32)) => post r u) (fun (u : (Nat → Int32)) (t : State) => va_P (dC, dI) vwCl [(h0, .inr (8, px_mf rf u))] t.heap ∧ va_K (dC, dI) vwCl [] t ∧ va_D (va_A [(h0, .inr (8, px_mf rf iv))] sz) [(h0, .inr (8, px_mf rf u))]) (va_A [(h0, .inr (8, px_mf rf iv))] sz)) 0 0 (va_A [(h0, .inr (8, px_mf rf iv))] sz) := by
  refine Met.ofW (cc := prog_15_method_88_code) (maxL := 1) (ret := (some .int)) (by decide) rfl ?_
  intro p e s m args below meth c s₁ B hml hv
  obtain ⟨rfl, hsz, hP, hK, hD0, hN⟩ := hv
  have hx := B.exec
  have hb := B.bytes
  have hr := B.returns
  have htw : ∀ w ∈ px_all, w.before _ s = true := fun w h => atoms_spec (ws := px_s38) B.pre w (List.mem_cons_of_mem _ h)
  have hown : s.vm.findClass "MatroidDeskModel" = some m.cls := findClass_of_methodNamed B.named
  have hlocks := B.notSynchronized
  subst hsz
  have hD := hD0.self (sz := s.heap.size)
  generalize hAe : va_A [(h0, .inr (8, px_mf rf iv))] s.heap.size = A at hD ⊢
  have hA : ∀ q : Nat, s.heap.size ≤ q → A q := fun q h => by rw [← hAe]; exact Or.inr h
  have hS : va_S A s.heap s.heap [] := va_S.rf
  have hP : va_P (dC, dI) vwCl [(h0, .inr (8, px_mf rf iv))] s.heap := hP
  have hl := lv_entry ([.ref h0]) (n := 1) (Nat.le_of_ble_eq_true rfl)
  rw [lg_entry_eq]
  generalize (lg_sl ([.ref h0]) ++ List.replicate (1 - (lg_sl ([.ref h0])).length) Slot.unset).toArray = ls at hl ⊢
  have hl : lv_has ls 1 [(0, .ref h0)] := hl
  generalize hQ : MQ _ _ _ _ _ _ _ = Q
  unfold mth_wp at hw
  have hS0 := hS
  obtain ⟨H, hH9⟩ : ∃ z, z = s.heap := ⟨_, rfl⟩
  have hP : va_P (dC, dI) vwCl [(h0, .inr (8, px_mf rf iv))] H := by rw [hH9]; exact hP
  obtain ⟨locs, hlo9⟩ : ∃ z : List Loc, z = [] := ⟨_, rfl⟩
  have hS : va_S A s.heap H locs := by rw [hH9, hlo9]; exact hS
  suffices hG : W p l e (headSpec px_s38 ({ frames := 0, cells := 0, slots := 0, locals := 0 })).room s m ([.ref h0]).toArray below meth c H locs 0 0 Q (F0 m 0 ls []) by rw [hH9, hlo9] at hG; exact hG
  refine lv_aload_n hx hb px_d38_0 rfl (lv_at hl 0 rfl) ?_
  refine va_get (D := (dC, dI)) (ci := 8) (v := .int (iv 49)) (C := "MatroidDeskModel") (T := px_T8) (N := 53) hx hb htw px_in8 hown hK hP 0 rfl rfl 49 (by decide) (htw _ px_w384) (fun _ h9 => h9) rfl px_d38_1 ?_
  rw [← hQ]
  exact W.iret (v := iv 49) hx hb hr (fun t ht hW => ⟨⟨iv 49, iv, rfl, hw, by rw [ht]; exact hP, va_K.moved hW.alike hK, hD⟩, hS.F ht⟩) hS.2.2 px_d38_4

def mpl_wp (post : Int32 → (Nat → Int32) → Prop) (iv : Nat → Int32) : Prop := post (iv 42) (va_up iv 49 0)
set_option maxHeartbeats 8000000 in
set_option maxRecDepth 100000 in
theorem mpl_met (l : Launch) (dC : Nat → ClassId) (dI : Nat → Nat → Nat) (sz : Nat) (h0 : Nat) (rf : Nat → Nat) (iv : Nat → Int32) (post : Int32 → (Nat → Int32) → Prop) (hw : mpl_wp post iv) : Met l px_y42 px_s42 ({ frames := 0, cells := 0, slots := 0, locals := 0 }) (va_Pc [.ref h0] (fun U => U.heap.size = sz ∧ va_P (dC, dI) vwCl [(h0, .inr (8, px_mf rf iv))] U.heap ∧ va_K (dC, dI) vwCl [] U ∧ va_D (fun _ => True) [(h0, .inr (8, px_mf rf iv))] ∧ px_N U)) (va_Qi (fun (r : Int32) (u : (Nat → Int32)) => post r u) (fun (u : (Nat → Int32)) (t : State) => va_P (dC, dI) vwCl [(h0, .inr (8, px_mf rf u))] t.heap ∧ va_K (dC, dI) vwCl [] t ∧ va_D (va_A [(h0, .inr (8, px_mf rf iv))] sz) [(h0, .inr (8, px_mf rf u))]) (va_A [(h0, .inr (8, px_mf rf iv))] sz)) 0 0 (va_A [(h0, .inr (8, px_mf rf iv))] sz) := by
  refine Met.ofW (cc := prog_15_method_93_code) (maxL := 1) (ret := (some .int)) (by decide) rfl ?_
  intro p e s m args below meth c s₁ B hml hv
  obtain ⟨rfl, hsz, hP, hK, hD0, hN⟩ := hv
  have hx := B.exec
  have hb := B.bytes
  have hr := B.returns
  have htw : ∀ w ∈ px_all, w.before _ s = true := fun w h => atoms_spec (ws := px_s42) B.pre w (List.mem_cons_of_mem _ h)
  have hown : s.vm.findClass "MatroidDeskModel" = some m.cls := findClass_of_methodNamed B.named
  have hlocks := B.notSynchronized
  subst hsz
  have hD := hD0.self (sz := s.heap.size)
  generalize hAe : va_A [(h0, .inr (8, px_mf rf iv))] s.heap.size = A at hD ⊢
  have hA : ∀ q : Nat, s.heap.size ≤ q → A q := fun q h => by rw [← hAe]; exact Or.inr h
  have hS : va_S A s.heap s.heap [] := va_S.rf
  have hP : va_P (dC, dI) vwCl [(h0, .inr (8, px_mf rf iv))] s.heap := hP
  have hl := lv_entry ([.ref h0]) (n := 1) (Nat.le_of_ble_eq_true rfl)
  rw [lg_entry_eq]
  generalize (lg_sl ([.ref h0]) ++ List.replicate (1 - (lg_sl ([.ref h0])).length) Slot.unset).toArray = ls at hl ⊢
  have hl : lv_has ls 1 [(0, .ref h0)] := hl
  generalize hQ : MQ _ _ _ _ _ _ _ = Q
  unfold mpl_wp at hw
  have hS0 := hS
  obtain ⟨H, hH9⟩ : ∃ z, z = s.heap := ⟨_, rfl⟩
  have hP : va_P (dC, dI) vwCl [(h0, .inr (8, px_mf rf iv))] H := by rw [hH9]; exact hP
  obtain ⟨locs, hlo9⟩ : ∃ z : List Loc, z = [] := ⟨_, rfl⟩
  have hS : va_S A s.heap H locs := by rw [hH9, hlo9]; exact hS
  suffices hG : W p l e (headSpec px_s42 ({ frames := 0, cells := 0, slots := 0, locals := 0 })).room s m ([.ref h0]).toArray below meth c H locs 0 0 Q (F0 m 0 ls []) by rw [hH9, hlo9] at hG; exact hG
  refine lv_aload_n hx hb px_d42_0 rfl (lv_at hl 0 rfl) ?_
  refine lv_iconst (v := 0) hx hb px_d42_1 (by decide) ?_
  refine va_put (D := (dC, dI)) (ci := 8) (v := .int 0) (ty := .int) (C := "MatroidDeskModel") (T := px_T8) (N := 53) hx hb htw px_in8 px_ty8 px_tyok8 px_nm8 hown hK hP hD hS 0 rfl rfl 49 (by decide) (htw _ px_w384) (fun _ h9 => h9) rfl (by decide +kernel) rfl rfl (Nat.le_of_ble_eq_true rfl) px_d42_2 (fun H locs hP hD hS => ?_)
  rw [px_ms49] at hP hD
  have hP : va_P (dC, dI) vwCl [(h0, .inr (8, px_mf rf (va_up iv 49 0)))] H := hP
  have hD : va_D A [(h0, .inr (8, px_mf rf (va_up iv 49 0)))] := hD
  refine lv_aload_n hx hb px_d42_5 rfl (lv_at hl 0 rfl) ?_
  refine va_get (D := (dC, dI)) (ci := 8) (v := .int (iv 42)) (C := "MatroidDeskModel") (T := px_T8) (N := 53) hx hb htw px_in8 hown hK hP 0 rfl rfl 42 (by decide) (htw _ px_w344) (fun _ h9 => h9) rfl px_d42_6 ?_
  rw [← hQ]
  exact W.iret (v := iv 42) hx hb hr (fun t ht hW => ⟨⟨iv 42, va_up iv 49 0, rfl, hw, by rw [ht]; exact hP, va_K.moved hW.alike hK, hD⟩, hS.F ht⟩) hS.2.2 px_d42_9

def mwh_wp (post : Int32 → (Nat → Int32) → Prop) (iv : Nat → Int32) : Prop := post (iv 52) (va_up iv 49 0)
set_option maxHeartbeats 8000000 in
set_option maxRecDepth 100000 in
theorem mwh_met (l : Launch) (dC : Nat → ClassId) (dI : Nat → Nat → Nat) (sz : Nat) (h0 : Nat) (rf : Nat → Nat) (iv : Nat → Int32) (post : Int32 → (Nat → Int32) → Prop) (hw : mwh_wp post iv) : Met l px_y43 px_s43 ({ frames := 0, cells := 0, slots := 0, locals := 0 }) (va_Pc [.ref h0] (fun U => U.heap.size = sz ∧ va_P (dC, dI) vwCl [(h0, .inr (8, px_mf rf iv))] U.heap ∧ va_K (dC, dI) vwCl [] U ∧ va_D (fun _ => True) [(h0, .inr (8, px_mf rf iv))] ∧ px_N U)) (va_Qi (fun (r : Int32) (u : (Nat → Int32)) => post r u) (fun (u : (Nat → Int32)) (t : State) => va_P (dC, dI) vwCl [(h0, .inr (8, px_mf rf u))] t.heap ∧ va_K (dC, dI) vwCl [] t ∧ va_D (va_A [(h0, .inr (8, px_mf rf iv))] sz) [(h0, .inr (8, px_mf rf u))]) (va_A [(h0, .inr (8, px_mf rf iv))] sz)) 0 0 (va_A [(h0, .inr (8, px_mf rf iv))] sz) := by
  refine Met.ofW (cc := prog_15_method_94_code) (maxL := 1) (ret := (some .int)) (by decide) rfl ?_
  intro p e s m args below meth c s₁ B hml hv
  obtain ⟨rfl, hsz, hP, hK, hD0, hN⟩ := hv
  have hx := B.exec
  have hb := B.bytes
  have hr := B.returns
  have htw : ∀ w ∈ px_all, w.before _ s = true := fun w h => atoms_spec (ws := px_s43) B.pre w (List.mem_cons_of_mem _ h)
  have hown : s.vm.findClass "MatroidDeskModel" = some m.cls := findClass_of_methodNamed B.named
  have hlocks := B.notSynchronized
  subst hsz
  have hD := hD0.self (sz := s.heap.size)
  generalize hAe : va_A [(h0, .inr (8, px_mf rf iv))] s.heap.size = A at hD ⊢
  have hA : ∀ q : Nat, s.heap.size ≤ q → A q := fun q h => by rw [← hAe]; exact Or.inr h
  have hS : va_S A s.heap s.heap [] := va_S.rf
  have hP : va_P (dC, dI) vwCl [(h0, .inr (8, px_mf rf iv))] s.heap := hP
  have hl := lv_entry ([.ref h0]) (n := 1) (Nat.le_of_ble_eq_true rfl)
  rw [lg_entry_eq]
  generalize (lg_sl ([.ref h0]) ++ List.replicate (1 - (lg_sl ([.ref h0])).length) Slot.unset).toArray = ls at hl ⊢
  have hl : lv_has ls 1 [(0, .ref h0)] := hl
  generalize hQ : MQ _ _ _ _ _ _ _ = Q
  unfold mwh_wp at hw
  have hS0 := hS
  obtain ⟨H, hH9⟩ : ∃ z, z = s.heap := ⟨_, rfl⟩
  have hP : va_P (dC, dI) vwCl [(h0, .inr (8, px_mf rf iv))] H := by rw [hH9]; exact hP
  obtain ⟨locs, hlo9⟩ : ∃ z : List Loc, z = [] := ⟨_, rfl⟩
  have hS : va_S A s.heap H locs := by rw [hH9, hlo9]; exact hS
  suffices hG : W p l e (headSpec px_s43 ({ frames := 0, cells := 0, slots := 0, locals := 0 })).room s m ([.ref h0]).toArray below meth c H locs 0 0 Q (F0 m 0 ls []) by rw [hH9, hlo9] at hG; exact hG
  refine lv_aload_n hx hb px_d43_0 rfl (lv_at hl 0 rfl) ?_
  refine lv_iconst (v := 0) hx hb px_d43_1 (by decide) ?_
  refine va_put (D := (dC, dI)) (ci := 8) (v := .int 0) (ty := .int) (C := "MatroidDeskModel") (T := px_T8) (N := 53) hx hb htw px_in8 px_ty8 px_tyok8 px_nm8 hown hK hP hD hS 0 rfl rfl 49 (by decide) (htw _ px_w384) (fun _ h9 => h9) rfl (by decide +kernel) rfl rfl (Nat.le_of_ble_eq_true rfl) px_d43_2 (fun H locs hP hD hS => ?_)
  rw [px_ms49] at hP hD
  have hP : va_P (dC, dI) vwCl [(h0, .inr (8, px_mf rf (va_up iv 49 0)))] H := hP
  have hD : va_D A [(h0, .inr (8, px_mf rf (va_up iv 49 0)))] := hD
  refine lv_aload_n hx hb px_d43_5 rfl (lv_at hl 0 rfl) ?_
  refine va_get (D := (dC, dI)) (ci := 8) (v := .int (iv 52)) (C := "MatroidDeskModel") (T := px_T8) (N := 53) hx hb htw px_in8 hown hK hP 0 rfl rfl 52 (by decide) (htw _ px_w403) (fun _ h9 => h9) rfl px_d43_6 ?_
  rw [← hQ]
  exact W.iret (v := iv 52) hx hb hr (fun t ht hW => ⟨⟨iv 52, va_up iv 49 0, rfl, hw, by rw [ht]; exact hP, va_K.moved hW.alike hK, hD⟩, hS.F ht⟩) hS.2.2 px_d43_9

def mpr_wp (post : Int32 → (Nat → Int32) → Prop) (iv : Nat → Int32) : Prop := post (iv 47) (va_up iv 49 0)
set_option maxHeartbeats 8000000 in
set_option maxRecDepth 100000 in
theorem mpr_met (l : Launch) (dC : Nat → ClassId) (dI : Nat → Nat → Nat) (sz : Nat) (h0 : Nat) (rf : Nat → Nat) (iv : Nat → Int32) (post : Int32 → (Nat → Int32) → Prop) (hw : mpr_wp post iv) : Met l px_y44 px_s44 ({ frames := 0, cells := 0, slots := 0, locals := 0 }) (va_Pc [.ref h0] (fun U => U.heap.size = sz ∧ va_P (dC, dI) vwCl [(h0, .inr (8, px_mf rf iv))] U.heap ∧ va_K (dC, dI) vwCl [] U ∧ va_D (fun _ => True) [(h0, .inr (8, px_mf rf iv))] ∧ px_N U)) (va_Qi (fun (r : Int32) (u : (Nat → Int32)) => post r u) (fun (u : (Nat → Int32)) (t : State) => va_P (dC, dI) vwCl [(h0, .inr (8, px_mf rf u))] t.heap ∧ va_K (dC, dI) vwCl [] t ∧ va_D (va_A [(h0, .inr (8, px_mf rf iv))] sz) [(h0, .inr (8, px_mf rf u))]) (va_A [(h0, .inr (8, px_mf rf iv))] sz)) 0 0 (va_A [(h0, .inr (8, px_mf rf iv))] sz) := by
  refine Met.ofW (cc := prog_15_method_95_code) (maxL := 1) (ret := (some .int)) (by decide) rfl ?_
  intro p e s m args below meth c s₁ B hml hv
  obtain ⟨rfl, hsz, hP, hK, hD0, hN⟩ := hv
  have hx := B.exec
  have hb := B.bytes
  have hr := B.returns
  have htw : ∀ w ∈ px_all, w.before _ s = true := fun w h => atoms_spec (ws := px_s44) B.pre w (List.mem_cons_of_mem _ h)
  have hown : s.vm.findClass "MatroidDeskModel" = some m.cls := findClass_of_methodNamed B.named
  have hlocks := B.notSynchronized
  subst hsz
  have hD := hD0.self (sz := s.heap.size)
  generalize hAe : va_A [(h0, .inr (8, px_mf rf iv))] s.heap.size = A at hD ⊢
  have hA : ∀ q : Nat, s.heap.size ≤ q → A q := fun q h => by rw [← hAe]; exact Or.inr h
  have hS : va_S A s.heap s.heap [] := va_S.rf
  have hP : va_P (dC, dI) vwCl [(h0, .inr (8, px_mf rf iv))] s.heap := hP
  have hl := lv_entry ([.ref h0]) (n := 1) (Nat.le_of_ble_eq_true rfl)
  rw [lg_entry_eq]
  generalize (lg_sl ([.ref h0]) ++ List.replicate (1 - (lg_sl ([.ref h0])).length) Slot.unset).toArray = ls at hl ⊢
  have hl : lv_has ls 1 [(0, .ref h0)] := hl
  generalize hQ : MQ _ _ _ _ _ _ _ = Q
  unfold mpr_wp at hw
  have hS0 := hS
  obtain ⟨H, hH9⟩ : ∃ z, z = s.heap := ⟨_, rfl⟩
  have hP : va_P (dC, dI) vwCl [(h0, .inr (8, px_mf rf iv))] H := by rw [hH9]; exact hP
  obtain ⟨locs, hlo9⟩ : ∃ z : List Loc, z = [] := ⟨_, rfl⟩
  have hS : va_S A s.heap H locs := by rw [hH9, hlo9]; exact hS
  suffices hG : W p l e (headSpec px_s44 ({ frames := 0, cells := 0, slots := 0, locals := 0 })).room s m ([.ref h0]).toArray below meth c H locs 0 0 Q (F0 m 0 ls []) by rw [hH9, hlo9] at hG; exact hG
  refine lv_aload_n hx hb px_d44_0 rfl (lv_at hl 0 rfl) ?_
  refine lv_iconst (v := 0) hx hb px_d44_1 (by decide) ?_
  refine va_put (D := (dC, dI)) (ci := 8) (v := .int 0) (ty := .int) (C := "MatroidDeskModel") (T := px_T8) (N := 53) hx hb htw px_in8 px_ty8 px_tyok8 px_nm8 hown hK hP hD hS 0 rfl rfl 49 (by decide) (htw _ px_w384) (fun _ h9 => h9) rfl (by decide +kernel) rfl rfl (Nat.le_of_ble_eq_true rfl) px_d44_2 (fun H locs hP hD hS => ?_)
  rw [px_ms49] at hP hD
  have hP : va_P (dC, dI) vwCl [(h0, .inr (8, px_mf rf (va_up iv 49 0)))] H := hP
  have hD : va_D A [(h0, .inr (8, px_mf rf (va_up iv 49 0)))] := hD
  refine lv_aload_n hx hb px_d44_5 rfl (lv_at hl 0 rfl) ?_
  refine va_get (D := (dC, dI)) (ci := 8) (v := .int (iv 47)) (C := "MatroidDeskModel") (T := px_T8) (N := 53) hx hb htw px_in8 hown hK hP 0 rfl rfl 47 (by decide) (htw _ px_w377) (fun _ h9 => h9) rfl px_d44_6 ?_
  rw [← hQ]
  exact W.iret (v := iv 47) hx hb hr (fun t ht hW => ⟨⟨iv 47, va_up iv 49 0, rfl, hw, by rw [ht]; exact hP, va_K.moved hW.alike hK, hD⟩, hS.F ht⟩) hS.2.2 px_d44_9

def mou_L27 (post : Int32 → (Nat → Int32) → (Nat → Int32) → Prop) (x1 : Int32) (y0 : Int32) (iv : Nat → Int32) (g_sheet : Nat → Int32) : Prop := post y0 iv g_sheet
def mou_L26 (post : Int32 → (Nat → Int32) → (Nat → Int32) → Prop) (x1 : Int32) (iv : Nat → Int32) (g_sheet : Nat → Int32) : Prop := mou_L27 post x1 (-1) iv g_sheet
def mou_wp (post : Int32 → (Nat → Int32) → (Nat → Int32) → Prop) (i : Int32) (iv : Nat → Int32) (g_sheet : Nat → Int32) : Prop := (i < 0 → mou_L26 post i (va_up iv 49 0) g_sheet) ∧ (¬ i < 0 → ((iv 47) ≤ i → mou_L26 post i (va_up iv 49 0) g_sheet) ∧ (¬ (iv 47) ≤ i → vp_in i 65536 ∧ (mou_L27 post i (g_sheet (Int32.toNatClampNeg i)) (va_up iv 49 0) g_sheet)))
set_option maxHeartbeats 8000000 in
set_option maxRecDepth 100000 in
theorem mou_met (l : Launch) (dC : Nat → ClassId) (dI : Nat → Nat → Nat) (sz : Nat) (h0 : Nat) (rf : Nat → Nat) (c_sheet : ClassId) (i : Int32) (iv : Nat → Int32) (g_sheet : Nat → Int32) (post : Int32 → (Nat → Int32) → (Nat → Int32) → Prop) (hw : mou_wp post i iv g_sheet) : Met l px_y45 px_s45 ({ frames := 0, cells := 0, slots := 0, locals := 0 }) (va_Pc [.ref h0, .int i] (fun U => U.heap.size = sz ∧ va_P (dC, dI) vwCl [(h0, .inr (8, px_mf rf iv)), (rf 46, .inl (c_sheet, 65536, .inl g_sheet))] U.heap ∧ va_K (dC, dI) vwCl [(c_sheet, .byte)] U ∧ va_D (fun _ => True) [(h0, .inr (8, px_mf rf iv)), (rf 46, .inl (c_sheet, 65536, .inl g_sheet))] ∧ px_N U)) (va_Qi (fun (r : Int32) (u : (Nat → Int32) × (Nat → Int32)) => post r u.1 u.2) (fun (u : (Nat → Int32) × (Nat → Int32)) (t : State) => va_P (dC, dI) vwCl [(h0, .inr (8, px_mf rf u.1)), (rf 46, .inl (c_sheet, 65536, .inl u.2))] t.heap ∧ va_K (dC, dI) vwCl [(c_sheet, .byte)] t ∧ va_D (va_A [(h0, .inr (8, px_mf rf iv)), (rf 46, .inl (c_sheet, 65536, .inl g_sheet))] sz) [(h0, .inr (8, px_mf rf u.1)), (rf 46, .inl (c_sheet, 65536, .inl u.2))]) (va_A [(h0, .inr (8, px_mf rf iv)), (rf 46, .inl (c_sheet, 65536, .inl g_sheet))] sz)) 0 0 (va_A [(h0, .inr (8, px_mf rf iv)), (rf 46, .inl (c_sheet, 65536, .inl g_sheet))] sz) := by
  refine Met.ofW (cc := prog_15_method_96_code) (maxL := 2) (ret := (some .int)) (by decide) rfl ?_
  intro p e s m args below meth c s₁ B hml hv
  obtain ⟨rfl, hsz, hP, hK, hD0, hN⟩ := hv
  have hx := B.exec
  have hb := B.bytes
  have hr := B.returns
  have htw : ∀ w ∈ px_all, w.before _ s = true := fun w h => atoms_spec (ws := px_s45) B.pre w (List.mem_cons_of_mem _ h)
  have hown : s.vm.findClass "MatroidDeskModel" = some m.cls := findClass_of_methodNamed B.named
  have hlocks := B.notSynchronized
  subst hsz
  have hD := hD0.self (sz := s.heap.size)
  generalize hAe : va_A [(h0, .inr (8, px_mf rf iv)), (rf 46, .inl (c_sheet, 65536, .inl g_sheet))] s.heap.size = A at hD ⊢
  have hA : ∀ q : Nat, s.heap.size ≤ q → A q := fun q h => by rw [← hAe]; exact Or.inr h
  have hS : va_S A s.heap s.heap [] := va_S.rf
  have hP : va_P (dC, dI) vwCl [(h0, .inr (8, px_mf rf iv)), (rf 46, .inl (c_sheet, 65536, .inl g_sheet))] s.heap := hP
  have hl := lv_entry ([.ref h0, .int i]) (n := 2) (Nat.le_of_ble_eq_true rfl)
  rw [lg_entry_eq]
  generalize (lg_sl ([.ref h0, .int i]) ++ List.replicate (2 - (lg_sl ([.ref h0, .int i])).length) Slot.unset).toArray = ls at hl ⊢
  have hl : lv_has ls 2 [(0, .ref h0), (1, .int i)] := hl
  generalize hQ : MQ _ _ _ _ _ _ _ = Q
  have S27 : ∀ (x1 : Int32) (y0 : Int32) (iv : Nat → Int32) (g_sheet : Nat → Int32) (H : Heap) (locs : List Loc) (ls : Array Slot), va_P (dC, dI) vwCl [(h0, .inr (8, px_mf rf iv)), (rf 46, .inl (c_sheet, 65536, .inl g_sheet))] H → va_D A [(h0, .inr (8, px_mf rf iv)), (rf 46, .inl (c_sheet, 65536, .inl g_sheet))] → va_S A s.heap H locs → lv_has ls 2 [(0, .ref h0), (1, .int x1)] → mou_L27 post x1 y0 iv g_sheet → W p l e (headSpec px_s45 ({ frames := 0, cells := 0, slots := 0, locals := 0 })).room s m ([.ref h0, .int i]).toArray below meth c H locs 0 0 Q (F0 m 27 ls [.int y0]) := by
    intro x1 y0 iv g_sheet H locs ls hP hD hS hl hw
    unfold mou_L27 at hw
    rw [← hQ]
    exact W.iret (v := y0) hx hb hr (fun t ht hW => ⟨⟨y0, (iv, g_sheet), rfl, hw, by rw [ht]; exact hP, va_K.moved hW.alike hK, hD⟩, hS.F ht⟩) hS.2.2 px_d45_27
  have S26 : ∀ (x1 : Int32) (iv : Nat → Int32) (g_sheet : Nat → Int32) (H : Heap) (locs : List Loc) (ls : Array Slot), va_P (dC, dI) vwCl [(h0, .inr (8, px_mf rf iv)), (rf 46, .inl (c_sheet, 65536, .inl g_sheet))] H → va_D A [(h0, .inr (8, px_mf rf iv)), (rf 46, .inl (c_sheet, 65536, .inl g_sheet))] → va_S A s.heap H locs → lv_has ls 2 [(0, .ref h0), (1, .int x1)] → mou_L26 post x1 iv g_sheet → W p l e (headSpec px_s45 ({ frames := 0, cells := 0, slots := 0, locals := 0 })).room s m ([.ref h0, .int i]).toArray below meth c H locs 0 0 Q (F0 m 26 ls []) := by
    intro x1 iv g_sheet H locs ls hP hD hS hl hw
    unfold mou_L26 at hw
    refine lv_iconst (v := (-1)) hx hb px_d45_26 (by decide) ?_
    exact S27 x1 (-1) iv g_sheet H locs ls hP hD hS (lv_sub hl [0, 1] rfl) hw
  unfold mou_wp at hw
  have hS0 := hS
  obtain ⟨H, hH9⟩ : ∃ z, z = s.heap := ⟨_, rfl⟩
  have hP : va_P (dC, dI) vwCl [(h0, .inr (8, px_mf rf iv)), (rf 46, .inl (c_sheet, 65536, .inl g_sheet))] H := by rw [hH9]; exact hP
  obtain ⟨locs, hlo9⟩ : ∃ z : List Loc, z = [] := ⟨_, rfl⟩
  have hS : va_S A s.heap H locs := by rw [hH9, hlo9]; exact hS
  suffices hG : W p l e (headSpec px_s45 ({ frames := 0, cells := 0, slots := 0, locals := 0 })).room s m ([.ref h0, .int i]).toArray below meth c H locs 0 0 Q (F0 m 0 ls []) by rw [hH9, hlo9] at hG; exact hG
  refine lv_aload_n hx hb px_d45_0 rfl (lv_at hl 0 rfl) ?_
  refine lv_iconst (v := 0) hx hb px_d45_1 (by decide) ?_
  refine va_put (D := (dC, dI)) (ci := 8) (v := .int 0) (ty := .int) (C := "MatroidDeskModel") (T := px_T8) (N := 53) hx hb htw px_in8 px_ty8 px_tyok8 px_nm8 hown hK hP hD hS 0 rfl rfl 49 (by decide) (htw _ px_w384) (fun _ h9 => h9) rfl (by decide +kernel) rfl rfl (Nat.le_of_ble_eq_true rfl) px_d45_2 (fun H locs hP hD hS => ?_)
  rw [px_ms49] at hP hD
  have hP : va_P (dC, dI) vwCl [(h0, .inr (8, px_mf rf (va_up iv 49 0))), (rf 46, .inl (c_sheet, 65536, .inl g_sheet))] H := hP
  have hD : va_D A [(h0, .inr (8, px_mf rf (va_up iv 49 0))), (rf 46, .inl (c_sheet, 65536, .inl g_sheet))] := hD
  refine lv_iload_n hx hb px_d45_5 rfl (lv_at hl 1 rfl) ?_
  refine lv_if_lt (tgt := 26) hx hb px_d45_6 (by decide) (fun c6 => ?_) (fun c6 => ?_)
  · have hw := hw.1 c6
    exact S26 i (va_up iv 49 0) g_sheet H locs ls hP hD hS (lv_sub hl [0, 1] rfl) hw
  · have hw := hw.2 c6
    refine lv_iload_n hx hb px_d45_9 rfl (lv_at hl 1 rfl) ?_
    refine lv_aload_n hx hb px_d45_10 rfl (lv_at hl 0 rfl) ?_
    refine va_get (D := (dC, dI)) (ci := 8) (v := .int (iv 47)) (C := "MatroidDeskModel") (T := px_T8) (N := 53) hx hb htw px_in8 hown hK hP 0 rfl rfl 47 (by decide) (htw _ px_w377) (fun _ h9 => h9) rfl px_d45_11 ?_
    refine lv_icmp_ge (tgt := 26) hx hb px_d45_14 (by decide) (fun c14 => ?_) (fun c14 => ?_)
    · have hw := hw.1 c14
      exact S26 i (va_up iv 49 0) g_sheet H locs ls hP hD hS (lv_sub hl [0, 1] rfl) hw
    · have hw := hw.2 c14
      refine lv_aload_n hx hb px_d45_17 rfl (lv_at hl 0 rfl) ?_
      refine va_get (D := (dC, dI)) (ci := 8) (v := .ref (rf 46)) (C := "MatroidDeskModel") (T := px_T8) (N := 53) hx hb htw px_in8 hown hK hP 0 rfl rfl 46 (by decide) (htw _ px_w380) (fun _ h9 => h9) rfl px_d45_18 ?_
      refine lv_iload_n hx hb px_d45_21 rfl (lv_at hl 1 rfl) ?_
      obtain ⟨hi22, hw⟩ := hw
      refine va_bald hx hb hK hP 1 0 rfl rfl hi22 px_d45_22 ?_
      refine lv_goto (tgt := 27) hx hb px_d45_23 (by decide) ?_
      exact S27 i (g_sheet (Int32.toNatClampNeg i)) (va_up iv 49 0) g_sheet H locs ls hP hD hS (lv_sub hl [0, 1] rfl) hw

def men_L18 (post : Int32 → (Nat → Int32) → Prop) (x1 : Int32) (y0 : Int32) (iv : Nat → Int32) : Prop := (y0 ≤ 0 → ∀ z1 : Int32, z1 = iv 51 → post z1 (va_up (va_up iv 49 y0) 51 x1)) ∧ (¬ y0 ≤ 0 → post 0 (va_up iv 49 y0))
def men_L13 (post : Int32 → (Nat → Int32) → Prop) (x1 : Int32) (iv : Nat → Int32) : Prop := men_L18 post x1 1 iv
def men_wp (post : Int32 → (Nat → Int32) → Prop) (n : Int32) (iv : Nat → Int32) : Prop := (n < 0 → men_L13 post n iv) ∧ (¬ n < 0 → (n ≤ (iv 51) → men_L18 post n 0 iv) ∧ (¬ n ≤ (iv 51) → men_L13 post n iv))
set_option maxHeartbeats 8000000 in
set_option maxRecDepth 100000 in
theorem men_met (l : Launch) (dC : Nat → ClassId) (dI : Nat → Nat → Nat) (sz : Nat) (h0 : Nat) (rf : Nat → Nat) (n : Int32) (iv : Nat → Int32) (post : Int32 → (Nat → Int32) → Prop) (hw : men_wp post n iv) : Met l px_y41 px_s41 ({ frames := 0, cells := 0, slots := 0, locals := 0 }) (va_Pc [.ref h0, .int n] (fun U => U.heap.size = sz ∧ va_P (dC, dI) vwCl [(h0, .inr (8, px_mf rf iv))] U.heap ∧ va_K (dC, dI) vwCl [] U ∧ va_D (fun _ => True) [(h0, .inr (8, px_mf rf iv))] ∧ px_N U)) (va_Qi (fun (r : Int32) (u : (Nat → Int32)) => post r u) (fun (u : (Nat → Int32)) (t : State) => va_P (dC, dI) vwCl [(h0, .inr (8, px_mf rf u))] t.heap ∧ va_K (dC, dI) vwCl [] t ∧ va_D (va_A [(h0, .inr (8, px_mf rf iv))] sz) [(h0, .inr (8, px_mf rf u))]) (va_A [(h0, .inr (8, px_mf rf iv))] sz)) 0 0 (va_A [(h0, .inr (8, px_mf rf iv))] sz) := by
  refine Met.ofW (cc := prog_15_method_91_code) (maxL := 3) (ret := (some .int)) (by decide) rfl ?_
  intro p e s m args below meth c s₁ B hml hv
  obtain ⟨rfl, hsz, hP, hK, hD0, hN⟩ := hv
  have hx := B.exec
  have hb := B.bytes
  have hr := B.returns
  have htw : ∀ w ∈ px_all, w.before _ s = true := fun w h => atoms_spec (ws := px_s41) B.pre w (List.mem_cons_of_mem _ h)
  have hown : s.vm.findClass "MatroidDeskModel" = some m.cls := findClass_of_methodNamed B.named
  have hlocks := B.notSynchronized
  subst hsz
  have hD := hD0.self (sz := s.heap.size)
  generalize hAe : va_A [(h0, .inr (8, px_mf rf iv))] s.heap.size = A at hD ⊢
  have hA : ∀ q : Nat, s.heap.size ≤ q → A q := fun q h => by rw [← hAe]; exact Or.inr h
  have hS : va_S A s.heap s.heap [] := va_S.rf
  have hP : va_P (dC, dI) vwCl [(h0, .inr (8, px_mf rf iv))] s.heap := hP
  have hl := lv_entry ([.ref h0, .int n]) (n := 3) (Nat.le_of_ble_eq_true rfl)
  rw [lg_entry_eq]
  generalize (lg_sl ([.ref h0, .int n]) ++ List.replicate (3 - (lg_sl ([.ref h0, .int n])).length) Slot.unset).toArray = ls at hl ⊢
  have hl : lv_has ls 3 [(0, .ref h0), (1, .int n)] := hl
  generalize hQ : MQ _ _ _ _ _ _ _ = Q
  have S18 : ∀ (x1 : Int32) (y0 : Int32) (iv : Nat → Int32) (H : Heap) (locs : List Loc) (ls : Array Slot), va_P (dC, dI) vwCl [(h0, .inr (8, px_mf rf iv))] H → va_D A [(h0, .inr (8, px_mf rf iv))] → va_S A s.heap H locs → lv_has ls 3 [(0, .ref h0), (1, .int x1)] → men_L18 post x1 y0 iv → W p l e (headSpec px_s41 ({ frames := 0, cells := 0, slots := 0, locals := 0 })).room s m ([.ref h0, .int n]).toArray below meth c H locs 0 0 Q (F0 m 18 ls [.int y0, .ref h0]) := by
    intro x1 y0 iv H locs ls hP hD hS hl hw
    unfold men_L18 at hw
    refine va_put (D := (dC, dI)) (ci := 8) (v := .int y0) (ty := .int) (C := "MatroidDeskModel") (T := px_T8) (N := 53) hx hb htw px_in8 px_ty8 px_tyok8 px_nm8 hown hK hP hD hS 0 rfl rfl 49 (by decide) (htw _ px_w384) (fun _ h9 => h9) rfl (by decide +kernel) rfl rfl (Nat.le_of_ble_eq_true rfl) px_d41_18 (fun H locs hP hD hS => ?_)
    rw [px_ms49] at hP hD
    have hP : va_P (dC, dI) vwCl [(h0, .inr (8, px_mf rf (va_up iv 49 y0)))] H := hP
    have hD : va_D A [(h0, .inr (8, px_mf rf (va_up iv 49 y0)))] := hD
    refine lv_aload_n hx hb px_d41_21 rfl (lv_at hl 0 rfl) ?_
    refine va_get (D := (dC, dI)) (ci := 8) (v := .int y0) (C := "MatroidDeskModel") (T := px_T8) (N := 53) hx hb htw px_in8 hown hK hP 0 rfl rfl 49 (by decide) (htw _ px_w384) (fun _ h9 => h9) rfl px_d41_22 ?_
    refine lv_if_le (tgt := 30) hx hb px_d41_25 (by decide) (fun c25 => ?_) (fun c25 => ?_)
    · have hw := hw.1 c25
      refine lv_aload_n hx hb px_d41_30 rfl (lv_at hl 0 rfl) ?_
      refine va_get (D := (dC, dI)) (ci := 8) (v := .int (iv 51)) (C := "MatroidDeskModel") (T := px_T8) (N := 53) hx hb htw px_in8 hown hK hP 0 rfl rfl 51 (by decide) (htw _ px_w389) (fun _ h9 => h9) rfl px_d41_31 ?_
      refine lv_topi (fun z1 ez1 => ?_)
      have hw := hw z1 ez1
      refine lv_istore_n (lv' := [(2, .int z1), (0, .ref h0), (1, .int x1)]) hx hb px_d41_34 rfl hl (by decide) rfl (fun ls hl => ?_)
      refine lv_aload_n hx hb px_d41_35 rfl (lv_at hl 1 rfl) ?_
      refine lv_iload_n hx hb px_d41_36 rfl (lv_at hl 2 rfl) ?_
      refine va_put (D := (dC, dI)) (ci := 8) (v := .int x1) (ty := .int) (C := "MatroidDeskModel") (T := px_T8) (N := 53) hx hb htw px_in8 px_ty8 px_tyok8 px_nm8 hown hK hP hD hS 0 rfl rfl 51 (by decide) (htw _ px_w389) (fun _ h9 => h9) rfl (by decide +kernel) rfl rfl (Nat.le_of_ble_eq_true rfl) px_d41_37 (fun H locs hP hD hS => ?_)
      rw [px_ms51] at hP hD
      have hP : va_P (dC, dI) vwCl [(h0, .inr (8, px_mf rf (va_up (va_up iv 49 y0) 51 x1)))] H := hP
      have hD : va_D A [(h0, .inr (8, px_mf rf (va_up (va_up iv 49 y0) 51 x1)))] := hD
      refine lv_iload_n hx hb px_d41_40 rfl (lv_at hl 0 rfl) ?_
      rw [← hQ]
      exact W.iret (v := z1) hx hb hr (fun t ht hW => ⟨⟨z1, va_up (va_up iv 49 y0) 51 x1, rfl, hw, by rw [ht]; exact hP, va_K.moved hW.alike hK, hD⟩, hS.F ht⟩) hS.2.2 px_d41_41
    · have hw := hw.2 c25
      refine lv_iconst (v := 0) hx hb px_d41_28 (by decide) ?_
      rw [← hQ]
      exact W.iret (v := 0) hx hb hr (fun t ht hW => ⟨⟨0, va_up iv 49 y0, rfl, hw, by rw [ht]; exact hP, va_K.moved hW.alike hK, hD⟩, hS.F ht⟩) hS.2.2 px_d41_29
  have S13 : ∀ (x1 : Int32) (iv : Nat → Int32) (H : Heap) (locs : List Loc) (ls : Array Slot), va_P (dC, dI) vwCl [(h0, .inr (8, px_mf rf iv))] H → va_D A [(h0, .inr (8, px_mf rf iv))] → va_S A s.heap H locs → lv_has ls 3 [(0, .ref h0), (1, .int x1)] → men_L13 post x1 iv → W p l e (headSpec px_s41 ({ frames := 0, cells := 0, slots := 0, locals := 0 })).room s m ([.ref h0, .int n]).toArray below meth c H locs 0 0 Q (F0 m 13 ls [.ref h0]) := by
    intro x1 iv H locs ls hP hD hS hl hw
    unfold men_L13 at hw
    refine lv_iconst (v := 1) hx hb px_d41_13 (by decide) ?_
    refine lv_goto (tgt := 18) hx hb px_d41_14 (by decide) ?_
    exact S18 x1 1 iv H locs ls hP hD hS (lv_sub hl [0, 1] rfl) hw
  unfold men_wp at hw
  have hS0 := hS
  obtain ⟨H, hH9⟩ : ∃ z, z = s.heap := ⟨_, rfl⟩
  have hP : va_P (dC, dI) vwCl [(h0, .inr (8, px_mf rf iv))] H := by rw [hH9]; exact hP
  obtain ⟨locs, hlo9⟩ : ∃ z : List Loc, z = [] := ⟨_, rfl⟩
  have hS : va_S A s.heap H locs := by rw [hH9, hlo9]; exact hS
  suffices hG : W p l e (headSpec px_s41 ({ frames := 0, cells := 0, slots := 0, locals := 0 })).room s m ([.ref h0, .int n]).toArray below meth c H locs 0 0 Q (F0 m 0 ls []) by rw [hH9, hlo9] at hG; exact hG
  refine lv_aload_n hx hb px_d41_0 rfl (lv_at hl 0 rfl) ?_
  refine lv_iload_n hx hb px_d41_1 rfl (lv_at hl 1 rfl) ?_
  refine lv_if_lt (tgt := 13) hx hb px_d41_2 (by decide) (fun c2 => ?_) (fun c2 => ?_)
  · have hw := hw.1 c2
    exact S13 n iv H locs ls hP hD hS (lv_sub hl [0, 1] rfl) hw
  · have hw := hw.2 c2
    refine lv_iload_n hx hb px_d41_5 rfl (lv_at hl 1 rfl) ?_
    refine lv_aload_n hx hb px_d41_6 rfl (lv_at hl 0 rfl) ?_
    refine va_get (D := (dC, dI)) (ci := 8) (v := .int (iv 51)) (C := "MatroidDeskModel") (T := px_T8) (N := 53) hx hb htw px_in8 hown hK hP 0 rfl rfl 51 (by decide) (htw _ px_w389) (fun _ h9 => h9) rfl px_d41_7 ?_
    refine lv_icmp_le (tgt := 17) hx hb px_d41_10 (by decide) (fun c10 => ?_) (fun c10 => ?_)
    · have hw := hw.1 c10
      refine lv_iconst (v := 0) hx hb px_d41_17 (by decide) ?_
      exact S18 n 0 iv H locs ls hP hD hS (lv_sub hl [0, 1] rfl) hw
    · have hw := hw.2 c10
      exact S13 n iv H locs ls hP hD hS (lv_sub hl [0, 1] rfl) hw

def mtk_L3 (post : (Nat → Int32) → (Nat → Int32) → Prop) : Nat → Int32 → Int32 → (Nat → Int32) → (Nat → Int32) → Prop
  | 0 => fun _ _ _ _ => False
  | k + 1 => fun x1 x2 iv g_came => (x2 < 0 → post iv g_came) ∧ (¬ x2 < 0 → vp_in (iv 51) 16384 ∧ (∀ z1 : Int32, z1 = (iv 51) + 1 → ∀ z2 : Int32, z2 = x2 + (-8) → (mtk_L3 post k) x1 z2 (va_up iv 51 z1) (upd g_came (Int32.toNatClampNeg (iv 51)) (vp_nar .byte ((x1 >>> (x2 &&& 31)).toInt8.toInt32)))))
def mtk_wp (post : (Nat → Int32) → (Nat → Int32) → Prop) (x : Int32) (iv : Nat → Int32) (g_came : Nat → Int32) : Prop := ∃ j3, mtk_L3 post j3 x 24 iv g_came
set_option maxHeartbeats 8000000 in
set_option maxRecDepth 100000 in
theorem mtk_met (l : Launch) (dC : Nat → ClassId) (dI : Nat → Nat → Nat) (sz : Nat) (h0 : Nat) (rf : Nat → Nat) (c_came : ClassId) (x : Int32) (iv : Nat → Int32) (g_came : Nat → Int32) (post : (Nat → Int32) → (Nat → Int32) → Prop) (hw : mtk_wp post x iv g_came) : Met l px_y39 px_s39 ({ frames := 0, cells := 0, slots := 0, locals := 0 }) (va_Pc [.ref h0, .int x] (fun U => U.heap.size = sz ∧ va_P (dC, dI) vwCl [(h0, .inr (8, px_mf rf iv)), (rf 50, .inl (c_came, 16384, .inl g_came))] U.heap ∧ va_K (dC, dI) vwCl [(c_came, .byte)] U ∧ va_D (fun _ => True) [(h0, .inr (8, px_mf rf iv)), (rf 50, .inl (c_came, 16384, .inl g_came))] ∧ px_N U)) (va_Qv (fun (u : (Nat → Int32) × (Nat → Int32)) => post u.1 u.2) (fun (u : (Nat → Int32) × (Nat → Int32)) (t : State) => va_P (dC, dI) vwCl [(h0, .inr (8, px_mf rf u.1)), (rf 50, .inl (c_came, 16384, .inl u.2))] t.heap ∧ va_K (dC, dI) vwCl [(c_came, .byte)] t ∧ va_D (va_A [(h0, .inr (8, px_mf rf iv)), (rf 50, .inl (c_came, 16384, .inl g_came))] sz) [(h0, .inr (8, px_mf rf u.1)), (rf 50, .inl (c_came, 16384, .inl u.2))]) (va_A [(h0, .inr (8, px_mf rf iv)), (rf 50, .inl (c_came, 16384, .inl g_came))] sz)) 0 0 (va_A [(h0, .inr (8, px_mf rf iv)), (rf 50, .inl (c_came, 16384, .inl g_came))] sz) := by
  refine Met.ofW (cc := prog_15_method_89_code) (maxL := 3) (ret := none) (by decide) rfl ?_
  intro p e s m args below meth c s₁ B hml hv
  obtain ⟨rfl, hsz, hP, hK, hD0, hN⟩ := hv
  have hx := B.exec
  have hb := B.bytes
  have hr := B.returns
  have htw : ∀ w ∈ px_all, w.before _ s = true := fun w h => atoms_spec (ws := px_s39) B.pre w (List.mem_cons_of_mem _ h)
  have hown : s.vm.findClass "MatroidDeskModel" = some m.cls := findClass_of_methodNamed B.named
  have hlocks := B.notSynchronized
  subst hsz
  have hD := hD0.self (sz := s.heap.size)
  generalize hAe : va_A [(h0, .inr (8, px_mf rf iv)), (rf 50, .inl (c_came, 16384, .inl g_came))] s.heap.size = A at hD ⊢
  have hA : ∀ q : Nat, s.heap.size ≤ q → A q := fun q h => by rw [← hAe]; exact Or.inr h
  have hS : va_S A s.heap s.heap [] := va_S.rf
  have hP : va_P (dC, dI) vwCl [(h0, .inr (8, px_mf rf iv)), (rf 50, .inl (c_came, 16384, .inl g_came))] s.heap := hP
  have hl := lv_entry ([.ref h0, .int x]) (n := 3) (Nat.le_of_ble_eq_true rfl)
  rw [lg_entry_eq]
  generalize (lg_sl ([.ref h0, .int x]) ++ List.replicate (3 - (lg_sl ([.ref h0, .int x])).length) Slot.unset).toArray = ls at hl ⊢
  have hl : lv_has ls 3 [(0, .ref h0), (1, .int x)] := hl
  generalize hQ : MQ _ _ _ _ _ _ _ = Q
  have S3 : ∀ (k3 : Nat) (x1 : Int32) (x2 : Int32) (iv : Nat → Int32) (g_came : Nat → Int32) (H : Heap) (locs : List Loc) (ls : Array Slot), va_P (dC, dI) vwCl [(h0, .inr (8, px_mf rf iv)), (rf 50, .inl (c_came, 16384, .inl g_came))] H → va_D A [(h0, .inr (8, px_mf rf iv)), (rf 50, .inl (c_came, 16384, .inl g_came))] → va_S A s.heap H locs → lv_has ls 3 [(0, .ref h0), (1, .int x1), (2, .int x2)] → mtk_L3 post k3 x1 x2 iv g_came → W p l e (headSpec px_s39 ({ frames := 0, cells := 0, slots := 0, locals := 0 })).room s m ([.ref h0, .int x]).toArray below meth c H locs 0 0 Q (F0 m 3 ls []) := by
    intro k3
    induction k3 with
    | zero => intro x1 x2 iv g_came H locs ls hP hD hS hl hw; exact False.elim hw
    | succ k3 ih3 =>
      intro x1 x2 iv g_came H locs ls hP hD hS hl hw
      unfold mtk_L3 at hw
      refine lv_iload_n hx hb px_d39_3 rfl (lv_at hl 2 rfl) ?_
      refine lv_if_lt (tgt := 36) hx hb px_d39_4 (by decide) (fun c4 => ?_) (fun c4 => ?_)
      · have hw := hw.1 c4
        rw [← hQ]
        exact W.vret hx hb hr (fun t ht hW => ⟨⟨(iv, g_came), rfl, hw, by rw [ht]; exact hP, va_K.moved hW.alike hK, hD⟩, hS.F ht⟩) hS.2.2 px_d39_36
      · have hw := hw.2 c4
        refine lv_aload_n hx hb px_d39_7 rfl (lv_at hl 0 rfl) ?_
        refine va_get (D := (dC, dI)) (ci := 8) (v := .ref (rf 50)) (C := "MatroidDeskModel") (T := px_T8) (N := 53) hx hb htw px_in8 hown hK hP 0 rfl rfl 50 (by decide) (htw _ px_w388) (fun _ h9 => h9) rfl px_d39_8 ?_
        refine lv_aload_n hx hb px_d39_11 rfl (lv_at hl 0 rfl) ?_
        refine va_get (D := (dC, dI)) (ci := 8) (v := .int (iv 51)) (C := "MatroidDeskModel") (T := px_T8) (N := 53) hx hb htw px_in8 hown hK hP 0 rfl rfl 51 (by decide) (htw _ px_w389) (fun _ h9 => h9) rfl px_d39_12 ?_
        refine lv_iload_n hx hb px_d39_15 rfl (lv_at hl 1 rfl) ?_
        refine lv_iload_n hx hb px_d39_16 rfl (lv_at hl 2 rfl) ?_
        refine lv_ishr hx hb px_d39_17 ?_
        refine lv_i2b (v := (x1 >>> (x2 &&& 31)).toInt8.toInt32) hx hb px_d39_18 rfl ?_
        obtain ⟨hi19, hw⟩ := hw
        refine va_bast hx hb hK hP hD hS 1 0 rfl rfl hi19 px_d39_19 (fun H locs hP hD hS => ?_)
        have hP : va_P (dC, dI) vwCl [(h0, .inr (8, px_mf rf iv)), (rf 50, .inl (c_came, 16384, .inl (upd g_came (Int32.toNatClampNeg (iv 51)) (vp_nar .byte ((x1 >>> (x2 &&& 31)).toInt8.toInt32)))))] H := hP
        have hD : va_D A [(h0, .inr (8, px_mf rf iv)), (rf 50, .inl (c_came, 16384, .inl (upd g_came (Int32.toNatClampNeg (iv 51)) (vp_nar .byte ((x1 >>> (x2 &&& 31)).toInt8.toInt32)))))] := hD
        refine lv_aload_n hx hb px_d39_20 rfl (lv_at hl 0 rfl) ?_
        refine lv_dup hx hb px_d39_21 rfl ?_
        refine va_get (D := (dC, dI)) (ci := 8) (v := .int (iv 51)) (C := "MatroidDeskModel") (T := px_T8) (N := 53) hx hb htw px_in8 hown hK hP 0 rfl rfl 51 (by decide) (htw _ px_w389) (fun _ h9 => h9) rfl px_d39_22 ?_
        refine lv_iconst (v := 1) hx hb px_d39_25 (by decide) ?_
        refine lv_iadd hx hb px_d39_26 ?_
        refine lv_topi (fun z1 ez1 => ?_)
        have hw := hw z1 ez1
        refine va_put (D := (dC, dI)) (ci := 8) (v := .int z1) (ty := .int) (C := "MatroidDeskModel") (T := px_T8) (N := 53) hx hb htw px_in8 px_ty8 px_tyok8 px_nm8 hown hK hP hD hS 0 rfl rfl 51 (by decide) (htw _ px_w389) (fun _ h9 => h9) rfl (by decide +kernel) rfl rfl (Nat.le_of_ble_eq_true rfl) px_d39_27 (fun H locs hP hD hS => ?_)
        rw [px_ms51] at hP hD
        have hP : va_P (dC, dI) vwCl [(h0, .inr (8, px_mf rf (va_up iv 51 z1))), (rf 50, .inl (c_came, 16384, .inl (upd g_came (Int32.toNatClampNeg (iv 51)) (vp_nar .byte ((x1 >>> (x2 &&& 31)).toInt8.toInt32)))))] H := hP
        have hD : va_D A [(h0, .inr (8, px_mf rf (va_up iv 51 z1))), (rf 50, .inl (c_came, 16384, .inl (upd g_came (Int32.toNatClampNeg (iv 51)) (vp_nar .byte ((x1 >>> (x2 &&& 31)).toInt8.toInt32)))))] := hD
        obtain ⟨z2, ez2⟩ : ∃ y : Int32, y = x2 + (-8) := ⟨_, rfl⟩
        have hw := hw z2 ez2
        refine lv_iinc (v := z2) (lv' := [(2, .int z2), (0, .ref h0), (1, .int x1)]) hx hb px_d39_30 hl (k := 2) rfl (by rw [ez2]; rfl) (by decide) rfl (fun ls hl => ?_)
        refine lv_goto (tgt := 3) hx hb px_d39_33 (by decide) ?_
        exact ih3 x1 z2 (va_up iv 51 z1) (upd g_came (Int32.toNatClampNeg (iv 51)) (vp_nar .byte ((x1 >>> (x2 &&& 31)).toInt8.toInt32))) H locs ls hP hD hS (lv_sub hl [1, 2, 0] rfl) hw
  unfold mtk_wp at hw
  have hS0 := hS
  obtain ⟨H, hH9⟩ : ∃ z, z = s.heap := ⟨_, rfl⟩
  have hP : va_P (dC, dI) vwCl [(h0, .inr (8, px_mf rf iv)), (rf 50, .inl (c_came, 16384, .inl g_came))] H := by rw [hH9]; exact hP
  obtain ⟨locs, hlo9⟩ : ∃ z : List Loc, z = [] := ⟨_, rfl⟩
  have hS : va_S A s.heap H locs := by rw [hH9, hlo9]; exact hS
  suffices hG : W p l e (headSpec px_s39 ({ frames := 0, cells := 0, slots := 0, locals := 0 })).room s m ([.ref h0, .int x]).toArray below meth c H locs 0 0 Q (F0 m 0 ls []) by rw [hH9, hlo9] at hG; exact hG
  refine lv_bipush (v := 24) hx hb px_d39_0 (by decide) ?_
  refine lv_istore_n (lv' := [(2, .int 24), (0, .ref h0), (1, .int x)]) hx hb px_d39_2 rfl hl (by decide) rfl (fun ls hl => ?_)
  obtain ⟨k9, hw⟩ := hw
  exact S3 k9 x 24 iv g_came H locs ls hP hD hS (lv_sub hl [1, 2, 0] rfl) hw

