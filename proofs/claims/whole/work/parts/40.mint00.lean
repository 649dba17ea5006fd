/-! MatroidDeskModel.begin(II)V -/
def w48_wp (post : (Nat → Int32) → Prop) (a1x : Int32) (a2x : Int32) (iv : Nat → Int32) : Prop := post (va_up (va_up (va_up iv 12 a1x) 11 a2x) 10 0)
set_option maxHeartbeats 8000000 in
set_option maxRecDepth 100000 in
theorem w48_met (l : Launch) (dC : Nat → ClassId) (dI : Nat → Nat → Nat) (sz : Nat) (h0 : Nat) (rf : Nat → Nat) (a1x : Int32) (a2x : Int32) (iv : Nat → Int32) (post : (Nat → Int32) → Prop) (hw : w48_wp post a1x a2x iv) : Met l px_y48 px_s48 ({ frames := 0, cells := 0, slots := 0, locals := 0 }) (va_Pc [.ref h0, .int a1x, .int a2x] (fun U => U.heap.size = sz ∧ va_P (dC, dI) vwCl [(h0, .inr (8, px_mf rf iv))] U.heap ∧ va_K (dC, dI) vwCl [] U ∧ va_D (fun _ => True) [(h0, .inr (8, px_mf rf iv))] ∧ px_N U)) (va_Qv (fun (u : (Nat → Int32)) => post u) (fun (u : (Nat → Int32)) (t : State) => va_P (dC, dI) vwCl [(h0, .inr (8, px_mf rf u))] t.heap ∧ va_K (dC, dI) vwCl [] t ∧ va_D (va_A [(h0, .inr (8, px_mf rf iv))] sz) [(h0, .inr (8, px_mf rf u))]) (va_A [(h0, .inr (8, px_mf rf iv))] sz)) 0 0 (va_A [(h0, .inr (8, px_mf rf iv))] sz) := by
  refine Met.ofW (cc := prog_15_method_3_code) (maxL := 3) (ret := none) (by decide) rfl ?_
  intro p e s m args below meth c s₁ B hml hv
  obtain ⟨rfl, hsz, hP, hK, hD0, hN⟩ := hv
  have hx := B.exec
  have hb := B.bytes
  have hr := B.returns
  have htw : ∀ w ∈ px_all, w.before _ s = true := fun w h => atoms_spec (ws := px_s48) B.pre w (List.mem_cons_of_mem _ h)
  have hown : s.vm.findClass "MatroidDeskModel" = some m.cls := findClass_of_methodNamed B.named
  have hlocks := B.notSynchronized
  subst hsz
  have hD := hD0.self (sz := s.heap.size)
  generalize hAe : va_A [(h0, .inr (8, px_mf rf iv))] s.heap.size = A at hD ⊢
  have hA : ∀ q : Nat, s.heap.size ≤ q → A q := fun q h => by rw [← hAe]; exact Or.inr h
  have hS : va_S A s.heap s.heap [] := va_S.rf
  have hP : va_P (dC, dI) vwCl [(h0, .inr (8, px_mf rf iv))] s.heap := hP
  have hl := lv_entry ([.ref h0, .int a1x, .int a2x]) (n := 3) (Nat.le_of_ble_eq_true rfl)
  rw [lg_entry_eq]
  generalize (lg_sl ([.ref h0, .int a1x, .int a2x]) ++ List.replicate (3 - (lg_sl ([.ref h0, .int a1x, .int a2x])).length) Slot.unset).toArray = ls at hl ⊢
  have hl : lv_has ls 3 [(0, .ref h0), (1, .int a1x), (2, .int a2x)] := hl
  generalize hQ : MQ _ _ _ _ _ _ _ = Q
  unfold w48_wp at hw
  have hS0 := hS
  obtain ⟨H, hH9⟩ : ∃ z, z = s.heap := ⟨_, rfl⟩
  have hP : va_P (dC, dI) vwCl [(h0, .inr (8, px_mf rf iv))] H := by rw [hH9]; exact hP
  obtain ⟨locs, hlo9⟩ : ∃ z : List Loc, z = [] := ⟨_, rfl⟩
  have hS : va_S A s.heap H locs := by rw [hH9, hlo9]; exact hS
  suffices hG : W p l e (headSpec px_s48 ({ frames := 0, cells := 0, slots := 0, locals := 0 })).room s m ([.ref h0, .int a1x, .int a2x]).toArray below meth c H locs 0 0 Q (F0 m 0 ls []) by rw [hH9, hlo9] at hG; exact hG
  refine lv_aload_n hx hb px_d48_0 rfl (lv_at hl 0 rfl) ?_
  refine lv_iload_n hx hb px_d48_1 rfl (lv_at hl 1 rfl) ?_
  refine va_put (D := (dC, dI)) (ci := 8) (v := .int a1x) (ty := .int) (C := "MatroidDeskModel") (T := px_T8) (N := 53) hx hb htw px_in8 px_ty8 px_tyok8 px_nm8 hown hK hP hD hS 0 rfl rfl 12 (by decide) (htw _ px_w428) (fun _ h9 => h9) rfl (by decide +kernel) rfl rfl (Nat.le_of_ble_eq_true rfl) px_d48_2 (fun H locs hP hD hS => ?_)
  rw [px_ms12] at hP hD
  have hP : va_P (dC, dI) vwCl [(h0, .inr (8, px_mf rf (va_up iv 12 a1x)))] H := hP
  have hD : va_D A [(h0, .inr (8, px_mf rf (va_up iv 12 a1x)))] := hD
  refine lv_aload_n hx hb px_d48_5 rfl (lv_at hl 0 rfl) ?_
  refine lv_iload_n hx hb px_d48_6 rfl (lv_at hl 2 rfl) ?_
  refine va_put (D := (dC, dI)) (ci := 8) (v := .int a2x) (ty := .int) (C := "MatroidDeskModel") (T := px_T8) (N := 53) hx hb htw px_in8 px_ty8 px_tyok8 px_nm8 hown hK hP hD hS 0 rfl rfl 11 (by decide) (htw _ px_w429) (fun _ h9 => h9) rfl (by decide +kernel) rfl rfl (Nat.le_of_ble_eq_true rfl) px_d48_7 (fun H locs hP hD hS => ?_)
  rw [px_ms11] at hP hD
  have hP : va_P (dC, dI) vwCl [(h0, .inr (8, px_mf rf (va_up (va_up iv 12 a1x) 11 a2x)))] H := hP
  have hD : va_D A [(h0, .inr (8, px_mf rf (va_up (va_up iv 12 a1x) 11 a2x)))] := hD
  refine lv_aload_n hx hb px_d48_10 rfl (lv_at hl 0 rfl) ?_
  refine lv_iconst (v := 0) hx hb px_d48_11 (by decide) ?_
  refine va_put (D := (dC, dI)) (ci := 8) (v := .int 0) (ty := .int) (C := "MatroidDeskModel") (T := px_T8) (N := 53) hx hb htw px_in8 px_ty8 px_tyok8 px_nm8 hown hK hP hD hS 0 rfl rfl 10 (by decide) (htw _ px_w430) (fun _ h9 => h9) rfl (by decide +kernel) rfl rfl (Nat.le_of_ble_eq_true rfl) px_d48_12 (fun H locs hP hD hS => ?_)
  rw [px_ms10] at hP hD
  have hP : va_P (dC, dI) vwCl [(h0, .inr (8, px_mf rf (va_up (va_up (va_up iv 12 a1x) 11 a2x) 10 0)))] H := hP
  have hD : va_D A [(h0, .inr (8, px_mf rf (va_up (va_up (va_up iv 12 a1x) 11 a2x) 10 0)))] := hD
  rw [← hQ]
  exact W.vret hx hb hr (fun t ht hW => ⟨⟨va_up (va_up (va_up iv 12 a1x) 11 a2x) 10 0, rfl, hw, by rw [ht]; exact hP, va_K.moved hW.alike hK, hD⟩, hS.F ht⟩) hS.2.2 px_d48_15

/-! MatroidDeskModel.inverse(I)I -/
def w52_L2 (post : Int32 → (Nat → Int32) → Prop) : Nat → Int32 → Int32 → (Nat → Int32) → Prop
  | 0 => fun _ _ _ => False
  | k + 1 => fun x1 x2 iv => ¬ (iv 12) = 0 ∧ ((((x2 * x1) - (x2 * x1) / (iv 12) * (iv 12)) = 1 → post x2 iv) ∧ (¬ ((x2 * x1) - (x2 * x1) / (iv 12) * (iv 12)) = 1 → ∀ z1 : Int32, z1 = x2 + 1 → (w52_L2 post k) x1 z1 iv))
def w52_wp (post : Int32 → (Nat → Int32) → Prop) (a1x : Int32) (iv : Nat → Int32) : Prop := ∃ j2, w52_L2 post j2 a1x 1 iv
set_option maxHeartbeats 8000000 in
set_option maxRecDepth 100000 in
theorem w52_met (l : Launch) (dC : Nat → ClassId) (dI : Nat → Nat → Nat) (sz : Nat) (h0 : Nat) (rf : Nat → Nat) (a1x : Int32) (iv : Nat → Int32) (post : Int32 → (Nat → Int32) → Prop) (hw : w52_wp post a1x iv) : Met l px_y52 px_s52 ({ frames := 0, cells := 0, slots := 0, locals := 0 }) (va_Pc [.ref h0, .int a1x] (fun U => U.heap.size = sz ∧ va_P (dC, dI) vwCl [(h0, .inr (8, px_mf rf iv))] U.heap ∧ va_K (dC, dI) vwCl [] U ∧ va_D (fun _ => True) [(h0, .inr (8, px_mf rf iv))] ∧ px_N U)) (va_Qi (fun (r : Int32) (u : (Nat → Int32)) => post r u) (fun (u : (Nat → Int32)) (t : State) => va_P (dC, dI) vwCl [(h0, .inr (8, px_mf rf u))] t.heap ∧ va_K (dC, dI) vwCl [] t ∧ va_D (va_A [(h0, .inr (8, px_mf rf iv))] sz) [(h0, .inr (8, px_mf rf u))]) (va_A [(h0, .inr (8, px_mf rf iv))] sz)) 0 0 (va_A [(h0, .inr (8, px_mf rf iv))] sz) := by
  refine Met.ofW (cc := prog_15_method_7_code) (maxL := 3) (ret := (some .int)) (by decide) rfl ?_
  intro p e s m args below meth c s₁ B hml hv
  obtain ⟨rfl, hsz, hP, hK, hD0, hN⟩ := hv
  have hx := B.exec
  have hb := B.bytes
  have hr := B.returns
  have htw : ∀ w ∈ px_all, w.before _ s = true := fun w h => atoms_spec (ws := px_s52) B.pre w (List.mem_cons_of_mem _ h)
  have hown : s.vm.findClass "MatroidDeskModel" = some m.cls := findClass_of_methodNamed B.named
  have hlocks := B.notSynchronized
  subst hsz
  have hD := hD0.self (sz := s.heap.size)
  generalize hAe : va_A [(h0, .inr (8, px_mf rf iv))] s.heap.size = A at hD ⊢
  have hA : ∀ q : Nat, s.heap.size ≤ q → A q := fun q h => by rw [← hAe]; exact Or.inr h
  have hS : va_S A s.heap s.heap [] := va_S.rf
  have hP : va_P (dC, dI) vwCl [(h0, .inr (8, px_mf rf iv))] s.heap := hP
  have hl := lv_entry ([.ref h0, .int a1x]) (n := 3) (Nat.le_of_ble_eq_true rfl)
  rw [lg_entry_eq]
  generalize (lg_sl ([.ref h0, .int a1x]) ++ List.replicate (3 - (lg_sl ([.ref h0, .int a1x])).length) Slot.unset).toArray = ls at hl ⊢
  have hl : lv_has ls 3 [(0, .ref h0), (1, .int a1x)] := hl
  generalize hQ : MQ _ _ _ _ _ _ _ = Q
  have S2 : ∀ (k2 : Nat) (x1 : Int32) (x2 : Int32) (iv : Nat → Int32) (H : Heap) (locs : List Loc) (ls : Array Slot), va_P (dC, dI) vwCl [(h0, .inr (8, px_mf rf iv))] H → va_D A [(h0, .inr (8, px_mf rf iv))] → va_S A s.heap H locs → lv_has ls 3 [(0, .ref h0), (1, .int x1), (2, .int x2)] → w52_L2 post k2 x1 x2 iv → W p l e (headSpec px_s52 ({ frames := 0, cells := 0, slots := 0, locals := 0 })).room s m ([.ref h0, .int a1x]).toArray below meth c H locs 0 0 Q (F0 m 2 ls []) := by
    intro k2
    induction k2 with
    | zero => intro x1 x2 iv H locs ls hP hD hS hl hw; exact False.elim hw
    | succ k2 ih2 =>
      intro x1 x2 iv H locs ls hP hD hS hl hw
      unfold w52_L2 at hw
      refine lv_iload_n hx hb px_d52_2 rfl (lv_at hl 2 rfl) ?_
      refine lv_iload_n hx hb px_d52_3 rfl (lv_at hl 1 rfl) ?_
      refine lv_imul hx hb px_d52_4 ?_
      refine lv_aload_n hx hb px_d52_5 rfl (lv_at hl 0 rfl) ?_
      refine va_get (D := (dC, dI)) (ci := 8) (v := .int (iv 12)) (C := "MatroidDeskModel") (T := px_T8) (N := 53) hx hb htw px_in8 hown hK hP 0 rfl rfl 12 (by decide) (htw _ px_w428) (fun _ h9 => h9) rfl px_d52_6 ?_
      obtain ⟨hd9, hw⟩ := hw
      refine lv_irem hx hb px_d52_9 hd9 ?_
      refine lv_iconst (v := 1) hx hb px_d52_10 (by decide) ?_
      refine lv_icmp_eq (tgt := 20) hx hb px_d52_11 (by decide) (fun c11 => ?_) (fun c11 => ?_)
      · have hw := hw.1 c11
        refine lv_iload_n hx hb px_d52_20 rfl (lv_at hl 2 rfl) ?_
        rw [← hQ]
        exact W.iret (v := x2) hx hb hr (fun t ht hW => ⟨⟨x2, iv, rfl, hw, by rw [ht]; exact hP, va_K.moved hW.alike hK, hD⟩, hS.F ht⟩) hS.2.2 px_d52_21
      · have hw := hw.2 c11
        obtain ⟨z1, ez1⟩ : ∃ y : Int32, y = x2 + 1 := ⟨_, rfl⟩
        have hw := hw z1 ez1
        refine lv_iinc (v := z1) (lv' := [(2, .int z1), (0, .ref h0), (1, .int x1)]) hx hb px_d52_14 hl (k := 2) rfl (by rw [ez1]; rfl) (by decide) rfl (fun ls hl => ?_)
        refine lv_goto (tgt := 2) hx hb px_d52_17 (by decide) ?_
        exact ih2 x1 z1 iv H locs ls hP hD hS (lv_sub hl [1, 2, 0] rfl) hw
  unfold w52_wp at hw
  have hS0 := hS
  obtain ⟨H, hH9⟩ : ∃ z, z = s.heap := ⟨_, rfl⟩
  have hP : va_P (dC, dI) vwCl [(h0, .inr (8, px_mf rf iv))] H := by rw [hH9]; exact hP
  obtain ⟨locs, hlo9⟩ : ∃ z : List Loc, z = [] := ⟨_, rfl⟩
  have hS : va_S A s.heap H locs := by rw [hH9, hlo9]; exact hS
  suffices hG : W p l e (headSpec px_s52 ({ frames := 0, cells := 0, slots := 0, locals := 0 })).room s m ([.ref h0, .int a1x]).toArray below meth c H locs 0 0 Q (F0 m 0 ls []) by rw [hH9, hlo9] at hG; exact hG
  refine lv_iconst (v := 1) hx hb px_d52_0 (by decide) ?_
  refine lv_istore_n (lv' := [(2, .int 1), (0, .ref h0), (1, .int a1x)]) hx hb px_d52_1 rfl hl (by decide) rfl (fun ls hl => ?_)
  obtain ⟨k9, hw⟩ := hw
  exact S2 k9 a1x 1 iv H locs ls hP hD hS (lv_sub hl [1, 2, 0] rfl) hw

/-! MatroidDeskModel.placeOf([III)I -/
def w58_L20 (n_r0 : Nat) (post : Int32 → (Nat → Int32) → Prop) (x1 : Int32) (x2 : Int32) (x3 : Int32) (g_r0 : Nat → Int32) : Prop := post x3 g_r0
def w58_L2 (n_r0 : Nat) (post : Int32 → (Nat → Int32) → Prop) : Nat → Int32 → Int32 → Int32 → (Nat → Int32) → Prop
  | 0 => fun _ _ _ _ => False
  | k + 1 => fun x1 x2 x3 g_r0 => (x1 ≤ x3 → w58_L20 n_r0 post x1 x2 x3 g_r0) ∧ (¬ x1 ≤ x3 → vp_in x3 n_r0 ∧ (((g_r0 (Int32.toNatClampNeg x3)) = x2 → w58_L20 n_r0 post x1 x2 x3 g_r0) ∧ (¬ (g_r0 (Int32.toNatClampNeg x3)) = x2 → ∀ z1 : Int32, z1 = x3 + 1 → (w58_L2 n_r0 post k) x1 x2 z1 g_r0)))
def w58_wp (n_r0 : Nat) (post : Int32 → (Nat → Int32) → Prop) (a1x : Int32) (a2x : Int32) (g_r0 : Nat → Int32) : Prop := ∃ j2, w58_L2 n_r0 post j2 a1x a2x 0 g_r0
set_option maxHeartbeats 8000000 in
set_option maxRecDepth 100000 in
theorem w58_met (l : Launch) (dC : Nat → ClassId) (dI : Nat → Nat → Nat) (sz : Nat) (r0x : Nat) (n_r0 : Nat) (c_r0 : ClassId) (a1x : Int32) (a2x : Int32) (g_r0 : Nat → Int32) (post : Int32 → (Nat → Int32) → Prop) (hw : w58_wp n_r0 post a1x a2x g_r0) : Met l px_y58 px_s58 ({ frames := 0, cells := 0, slots := 0, locals := 0 }) (va_Pc [.ref r0x, .int a1x, .int a2x] (fun U => U.heap.size = sz ∧ va_P (dC, dI) vwCl [(r0x, .inl (c_r0, n_r0, .inl g_r0))] U.heap ∧ va_K (dC, dI) vwCl [(c_r0, .int)] U ∧ va_D (fun _ => True) [(r0x, .inl (c_r0, n_r0, .inl g_r0))] ∧ px_N U)) (va_Qi (fun (r : Int32) (u : (Nat → Int32)) => post r u) (fun (u : (Nat → Int32)) (t : State) => va_P (dC, dI) vwCl [(r0x, .inl (c_r0, n_r0, .inl u))] t.heap ∧ va_K (dC, dI) vwCl [(c_r0, .int)] t ∧ va_D (va_A [(r0x, .inl (c_r0, n_r0, .inl g_r0))] sz) [(r0x, .inl (c_r0, n_r0, .inl u))]) (va_A [(r0x, .inl (c_r0, n_r0, .inl g_r0))] sz)) 0 0 (va_A [(r0x, .inl (c_r0, n_r0, .inl g_r0))] sz) := by
  refine Met.ofW (cc := prog_15_method_13_code) (maxL := 4) (ret := (some .int)) (by decide) rfl ?_
  intro p e s m args below meth c s₁ B hml hv
  obtain ⟨rfl, hsz, hP, hK, hD0, hN⟩ := hv
  have hx := B.exec
  have hb := B.bytes
  have hr := B.returns
  have htw : ∀ w ∈ px_all, w.before _ s = true := fun w h => atoms_spec (ws := px_s58) B.pre w (List.mem_cons_of_mem _ h)
  have hown : s.vm.findClass "MatroidDeskModel" = some m.cls := findClass_of_methodNamed B.named
  have hlocks := B.notSynchronized
  subst hsz
  have hD := hD0.self (sz := s.heap.size)
  generalize hAe : va_A [(r0x, .inl (c_r0, n_r0, .inl g_r0))] s.heap.size = A at hD ⊢
  have hA : ∀ q : Nat, s.heap.size ≤ q → A q := fun q h => by rw [← hAe]; exact Or.inr h
  have hS : va_S A s.heap s.heap [] := va_S.rf
  have hP : va_P (dC, dI) vwCl [(r0x, .inl (c_r0, n_r0, .inl g_r0))] s.heap := hP
  have hl := lv_entry ([.ref r0x, .int a1x, .int a2x]) (n := 4) (Nat.le_of_ble_eq_true rfl)
  rw [lg_entry_eq]
  generalize (lg_sl ([.ref r0x, .int a1x, .int a2x]) ++ List.replicate (4 - (lg_sl ([.ref r0x, .int a1x, .int a2x])).length) Slot.unset).toArray = ls at hl ⊢
  have hl : lv_has ls 4 [(0, .ref r0x), (1, .int a1x), (2, .int a2x)] := hl
  generalize hQ : MQ _ _ _ _ _ _ _ = Q
  have S20 : ∀ (x1 : Int32) (x2 : Int32) (x3 : Int32) (g_r0 : Nat → Int32) (H : Heap) (locs : List Loc) (ls : Array Slot), va_P (dC, dI) vwCl [(r0x, .inl (c_r0, n_r0, .inl g_r0))] H → va_D A [(r0x, .inl (c_r0, n_r0, .inl g_r0))] → va_S A s.heap H locs → lv_has ls 4 [(0, .ref r0x), (1, .int x1), (2, .int x2), (3, .int x3)] → w58_L20 n_r0 post x1 x2 x3 g_r0 → W p l e (headSpec px_s58 ({ frames := 0, cells := 0, slots := 0, locals := 0 })).room s m ([.ref r0x, .int a1x, .int a2x]).toArray below meth c H locs 0 0 Q (F0 m 20 ls []) := by
    intro x1 x2 x3 g_r0 H locs ls hP hD hS hl hw
    unfold w58_L20 at hw
    refine lv_iload_n hx hb px_d58_20 rfl (lv_at hl 3 rfl) ?_
    rw [← hQ]
    exact W.iret (v := x3) hx hb hr (fun t ht hW => ⟨⟨x3, g_r0, rfl, hw, by rw [ht]; exact hP, va_K.moved hW.alike hK, hD⟩, hS.F ht⟩) hS.2.2 px_d58_21
  have S2 : ∀ (k2 : Nat) (x1 : Int32) (x2 : Int32) (x3 : Int32) (g_r0 : Nat → Int32) (H : Heap) (locs : List Loc) (ls : Array Slot), va_P (dC, dI) vwCl [(r0x, .inl (c_r0, n_r0, .inl g_r0))] H → va_D A [(r0x, .inl (c_r0, n_r0, .inl g_r0))] → va_S A s.heap H locs → lv_has ls 4 [(0, .ref r0x), (1, .int x1), (2, .int x2), (3, .int x3)] → w58_L2 n_r0 post k2 x1 x2 x3 g_r0 → W p l e (headSpec px_s58 ({ frames := 0, cells := 0, slots := 0, locals := 0 })).room s m ([.ref r0x, .int a1x, .int a2x]).toArray below meth c H locs 0 0 Q (F0 m 2 ls []) := by
    intro k2
    induction k2 with
    | zero => intro x1 x2 x3 g_r0 H locs ls hP hD hS hl hw; exact False.elim hw
    | succ k2 ih2 =>
      intro x1 x2 x3 g_r0 H locs ls hP hD hS hl hw
      unfold w58_L2 at hw
      refine lv_iload_n hx hb px_d58_2 rfl (lv_at hl 3 rfl) ?_
      refine lv_iload_n hx hb px_d58_3 rfl (lv_at hl 1 rfl) ?_
      refine lv_icmp_ge (tgt := 20) hx hb px_d58_4 (by decide) (fun c4 => ?_) (fun c4 => ?_)
      · have hw := hw.1 c4
        exact S20 x1 x2 x3 g_r0 H locs ls hP hD hS (lv_sub hl [0, 1, 2, 3] rfl) hw
      · have hw := hw.2 c4
        refine lv_aload_n hx hb px_d58_7 rfl (lv_at hl 0 rfl) ?_
        refine lv_iload_n hx hb px_d58_8 rfl (lv_at hl 3 rfl) ?_
        obtain ⟨hi9, hw⟩ := hw
        refine va_iald hx hb hK hP 0 0 rfl rfl hi9 px_d58_9 ?_
        refine lv_iload_n hx hb px_d58_10 rfl (lv_at hl 2 rfl) ?_
        refine lv_icmp_eq (tgt := 20) hx hb px_d58_11 (by decide) (fun c11 => ?_) (fun c11 => ?_)
        · have hw := hw.1 c11
          exact S20 x1 x2 x3 g_r0 H locs ls hP hD hS (lv_sub hl [0, 1, 2, 3] rfl) hw
        · have hw := hw.2 c11
          obtain ⟨z1, ez1⟩ : ∃ y : Int32, y = x3 + 1 := ⟨_, rfl⟩
          have hw := hw z1 ez1
          refine lv_iinc (v := z1) (lv' := [(3, .int z1), (0, .ref r0x), (1, .int x1), (2, .int x2)]) hx hb px_d58_14 hl (k := 3) rfl (by rw [ez1]; rfl) (by decide) rfl (fun ls hl => ?_)
          refine lv_goto (tgt := 2) hx hb px_d58_17 (by decide) ?_
          exact ih2 x1 x2 z1 g_r0 H locs ls hP hD hS (lv_sub hl [1, 2, 3, 0] rfl) hw
  unfold w58_wp at hw
  have hS0 := hS
  obtain ⟨H, hH9⟩ : ∃ z, z = s.heap := ⟨_, rfl⟩
  have hP : va_P (dC, dI) vwCl [(r0x, .inl (c_r0, n_r0, .inl g_r0))] H := by rw [hH9]; exact hP
  obtain ⟨locs, hlo9⟩ : ∃ z : List Loc, z = [] := ⟨_, rfl⟩
  have hS : va_S A s.heap H locs := by rw [hH9, hlo9]; exact hS
  suffices hG : W p l e (headSpec px_s58 ({ frames := 0, cells := 0, slots := 0, locals := 0 })).room s m ([.ref r0x, .int a1x, .int a2x]).toArray below meth c H locs 0 0 Q (F0 m 0 ls []) by rw [hH9, hlo9] at hG; exact hG
  refine lv_iconst (v := 0) hx hb px_d58_0 (by decide) ?_
  refine lv_istore_n (lv' := [(3, .int 0), (0, .ref r0x), (1, .int a1x), (2, .int a2x)]) hx hb px_d58_1 rfl hl (by decide) rfl (fun ls hl => ?_)
  obtain ⟨k9, hw⟩ := hw
  exact S2 k9 a1x a2x 0 g_r0 H locs ls hP hD hS (lv_sub hl [1, 2, 3, 0] rfl) hw

/-! MatroidDeskModel.remove([III)V -/
def w59_L2 (n_r0 : Nat) (post : (Nat → Int32) → Prop) : Nat → Int32 → Int32 → Int32 → (Nat → Int32) → Prop
  | 0 => fun _ _ _ _ => False
  | k + 1 => fun x1 x2 x3 g_r0 => (x1 ≤ (x3 + 1) → post g_r0) ∧ (¬ x1 ≤ (x3 + 1) → vp_in (x3 + 1) n_r0 ∧ (∀ z1 : Int32, z1 = g_r0 (Int32.toNatClampNeg (x3 + 1)) → vp_in x3 n_r0 ∧ (∀ z2 : Int32, z2 = x3 + 1 → (w59_L2 n_r0 post k) x1 x2 z2 (upd g_r0 (Int32.toNatClampNeg x3) z1))))
def w59_wp (n_r0 : Nat) (post : (Nat → Int32) → Prop) (a1x : Int32) (a2x : Int32) (g_r0 : Nat → Int32) : Prop := ∃ j2, w59_L2 n_r0 post j2 a1x a2x a2x g_r0
set_option maxHeartbeats 8000000 in
set_option maxRecDepth 100000 in
theorem w59_met (l : Launch) (dC : Nat → ClassId) (dI : Nat → Nat → Nat) (sz : Nat) (r0x : Nat) (n_r0 : Nat) (c_r0 : ClassId) (a1x : Int32) (a2x : Int32) (g_r0 : Nat → Int32) (post : (Nat → Int32) → Prop) (hw : w59_wp n_r0 post a1x a2x g_r0) : Met l px_y59 px_s59 ({ frames := 0, cells := 0, slots := 0, locals := 0 }) (va_Pc [.ref r0x, .int a1x, .int a2x] (fun U => U.heap.size = sz ∧ va_P (dC, dI) vwCl [(r0x, .inl (c_r0, n_r0, .inl g_r0))] U.heap ∧ va_K (dC, dI) vwCl [(c_r0, .int)] U ∧ va_D (fun _ => True) [(r0x, .inl (c_r0, n_r0, .inl g_r0))] ∧ px_N U)) (va_Qv (fun (u : (Nat → Int32)) => post u) (fun (u : (Nat → Int32)) (t : State) => va_P (dC, dI) vwCl [(r0x, .inl (c_r0, n_r0, .inl u))] t.heap ∧ va_K (dC, dI) vwCl [(c_r0, .int)] t ∧ va_D (va_A [(r0x, .inl (c_r0, n_r0, .inl g_r0))] sz) [(r0x, .inl (c_r0, n_r0, .inl u))]) (va_A [(r0x, .inl (c_r0, n_r0, .inl g_r0))] sz)) 0 0 (va_A [(r0x, .inl (c_r0, n_r0, .inl g_r0))] sz) := by
  refine Met.ofW (cc := prog_15_method_14_code) (maxL := 4) (ret := none) (by decide) rfl ?_
  intro p e s m args below meth c s₁ B hml hv
  obtain ⟨rfl, hsz, hP, hK, hD0, hN⟩ := hv
  have hx := B.exec
  have hb := B.bytes
  have hr := B.returns
  have htw : ∀ w ∈ px_all, w.before _ s = true := fun w h => atoms_spec (ws := px_s59) B.pre w (List.mem_cons_of_mem _ h)
  have hown : s.vm.findClass "MatroidDeskModel" = some m.cls := findClass_of_methodNamed B.named
  have hlocks := B.notSynchronized
  subst hsz
  have hD := hD0.self (sz := s.heap.size)
  generalize hAe : va_A [(r0x, .inl (c_r0, n_r0, .inl g_r0))] s.heap.size = A at hD ⊢
  have hA : ∀ q : Nat, s.heap.size ≤ q → A q := fun q h => by rw [← hAe]; exact Or.inr h
  have hS : va_S A s.heap s.heap [] := va_S.rf
  have hP : va_P (dC, dI) vwCl [(r0x, .inl (c_r0, n_r0, .inl g_r0))] s.heap := hP
  have hl := lv_entry ([.ref r0x, .int a1x, .int a2x]) (n := 4) (Nat.le_of_ble_eq_true rfl)
  rw [lg_entry_eq]
  generalize (lg_sl ([.ref r0x, .int a1x, .int a2x]) ++ List.replicate (4 - (lg_sl ([.ref r0x, .int a1x, .int a2x])).length) Slot.unset).toArray = ls at hl ⊢
  have hl : lv_has ls 4 [(0, .ref r0x), (1, .int a1x), (2, .int a2x)] := hl
  generalize hQ : MQ _ _ _ _ _ _ _ = Q
  have S2 : ∀ (k2 : Nat) (x1 : Int32) (x2 : Int32) (x3 : Int32) (g_r0 : Nat → Int32) (H : Heap) (locs : List Loc) (ls : Array Slot), va_P (dC, dI) vwCl [(r0x, .inl (c_r0, n_r0, .inl g_r0))] H → va_D A [(r0x, .inl (c_r0, n_r0, .inl g_r0))] → va_S A s.heap H locs → lv_has ls 4 [(0, .ref r0x), (1, .int x1), (2, .int x2), (3, .int x3)] → w59_L2 n_r0 post k2 x1 x2 x3 g_r0 → W p l e (headSpec px_s59 ({ frames := 0, cells := 0, slots := 0, locals := 0 })).room s m ([.ref r0x, .int a1x, .int a2x]).toArray below meth c H locs 0 0 Q (F0 m 2 ls []) := by
    intro k2
    induction k2 with
    | zero => intro x1 x2 x3 g_r0 H locs ls hP hD hS hl hw; exact False.elim hw
    | succ k2 ih2 =>
      intro x1 x2 x3 g_r0 H locs ls hP hD hS hl hw
      unfold w59_L2 at hw
      refine lv_iload_n hx hb px_d59_2 rfl (lv_at hl 3 rfl) ?_
      refine lv_iconst (v := 1) hx hb px_d59_3 (by decide) ?_
      refine lv_iadd hx hb px_d59_4 ?_
      refine lv_iload_n hx hb px_d59_5 rfl (lv_at hl 1 rfl) ?_
      refine lv_icmp_ge (tgt := 23) hx hb px_d59_6 (by decide) (fun c6 => ?_) (fun c6 => ?_)
      · have hw := hw.1 c6
        rw [← hQ]
        exact W.vret hx hb hr (fun t ht hW => ⟨⟨g_r0, rfl, hw, by rw [ht]; exact hP, va_K.moved hW.alike hK, hD⟩, hS.F ht⟩) hS.2.2 px_d59_23
      · have hw := hw.2 c6
        refine lv_aload_n hx hb px_d59_9 rfl (lv_at hl 0 rfl) ?_
        refine lv_iload_n hx hb px_d59_10 rfl (lv_at hl 3 rfl) ?_
        refine lv_aload_n hx hb px_d59_11 rfl (lv_at hl 0 rfl) ?_
        refine lv_iload_n hx hb px_d59_12 rfl (lv_at hl 3 rfl) ?_
        refine lv_iconst (v := 1) hx hb px_d59_13 (by decide) ?_
        refine lv_iadd hx hb px_d59_14 ?_
        obtain ⟨hi15, hw⟩ := hw
        refine va_iald hx hb hK hP 0 0 rfl rfl hi15 px_d59_15 ?_
        refine lv_topi (fun z1 ez1 => ?_)
        have hw := hw z1 ez1
        obtain ⟨hi16, hw⟩ := hw
        refine va_iast hx hb hK hP hD hS 0 0 rfl rfl hi16 px_d59_16 (fun H locs hP hD hS => ?_)
        have hP : va_P (dC, dI) vwCl [(r0x, .inl (c_r0, n_r0, .inl (upd g_r0 (Int32.toNatClampNeg x3) z1)))] H := hP
        have hD : va_D A [(r0x, .inl (c_r0, n_r0, .inl (upd g_r0 (Int32.toNatClampNeg x3) z1)))] := hD
        obtain ⟨z2, ez2⟩ : ∃ y : Int32, y = x3 + 1 := ⟨_, rfl⟩
        have hw := hw z2 ez2
        refine lv_iinc (v := z2) (lv' := [(3, .int z2), (0, .ref r0x), (1, .int x1), (2, .int x2)]) hx hb px_d59_17 hl (k := 3) rfl (by rw [ez2]; rfl) (by decide) rfl (fun ls hl => ?_)
        refine lv_goto (tgt := 2) hx hb px_d59_20 (by decide) ?_
        exact ih2 x1 x2 z2 (upd g_r0 (Int32.toNatClampNeg x3) z1) H locs ls hP hD hS (lv_sub hl [1, 2, 3, 0] rfl) hw
  unfold w59_wp at hw
  have hS0 := hS
  obtain ⟨H, hH9⟩ : ∃ z, z = s.heap := ⟨_, rfl⟩
  have hP : va_P (dC, dI) vwCl [(r0x, .inl (c_r0, n_r0, .inl g_r0))] H := by rw [hH9]; exact hP
  obtain ⟨locs, hlo9⟩ : ∃ z : List Loc, z = [] := ⟨_, rfl⟩
  have hS : va_S A s.heap H locs := by rw [hH9, hlo9]; exact hS
  suffices hG : W p l e (headSpec px_s59 ({ frames := 0, cells := 0, slots := 0, locals := 0 })).room s m ([.ref r0x, .int a1x, .int a2x]).toArray below meth c H locs 0 0 Q (F0 m 0 ls []) by rw [hH9, hlo9] at hG; exact hG
  refine lv_iload_n hx hb px_d59_0 rfl (lv_at hl 2 rfl) ?_
  refine lv_istore_n (lv' := [(3, .int a2x), (0, .ref r0x), (1, .int a1x), (2, .int a2x)]) hx hb px_d59_1 rfl hl (by decide) rfl (fun ls hl => ?_)
  obtain ⟨k9, hw⟩ := hw
  exact S2 k9 a1x a2x a2x g_r0 H locs ls hP hD hS (lv_sub hl [1, 2, 3, 0] rfl) hw

/-! MatroidDeskModel.smallDeterminant(I)I -/
def w60_L219 (K60 : Int32 → Int32 → (Nat → Int32) → (Nat → Int32) → (Nat → Int32) → (Nat → Int32) → (Nat → Int32) → Prop) (K188 : Int32 → Int32 → Int32 → Int32 → Int32 → (Nat → Int32) → (Nat → Int32) → (Nat → Int32) → (Nat → Int32) → (Nat → Int32) → Prop) (post : Int32 → (Nat → Int32) → (Nat → Int32) → (Nat → Int32) → (Nat → Int32) → (Nat → Int32) → Prop) : Nat → Int32 → Int32 → Int32 → Int32 → Int32 → Int32 → Int32 → (Nat → Int32) → (Nat → Int32) → (Nat → Int32) → (Nat → Int32) → (Nat → Int32) → Prop
  | 0 => fun _ _ _ _ _ _ _ _ _ _ _ _ => False
  | k + 1 => fun x1 x2 x3 x4 x5 x6 x7 iv g_small g_freeRows g_freeColumns g_smallMinor => (x1 ≤ x7 → ∀ z1 : Int32, z1 = x5 + 1 → K188 x1 x2 x3 x4 z1 iv g_small g_freeRows g_freeColumns g_smallMinor) ∧ (¬ x1 ≤ x7 → vp_in ((6 * x5) + x7) 36 ∧ (vp_in ((6 * x2) + x7) 36 ∧ (¬ (iv 12) = 0 ∧ (∀ z2 : Int32, z2 = ((g_smallMinor (Int32.toNatClampNeg ((6 * x5) + x7))) + (((iv 12) - x6) * (g_smallMinor (Int32.toNatClampNeg ((6 * x2) + x7))))) - ((g_smallMinor (Int32.toNatClampNeg ((6 * x5) + x7))) + (((iv 12) - x6) * (g_smallMinor (Int32.toNatClampNeg ((6 * x2) + x7))))) / (iv 12) * (iv 12) → vp_in ((6 * x5) + x7) 36 ∧ (∀ z3 : Int32, z3 = x7 + 1 → (w60_L219 K60 K188 post k) x1 x2 x3 x4 x5 x6 z3 iv g_small g_freeRows g_freeColumns (upd g_smallMinor (Int32.toNatClampNeg ((6 * x5) + x7)) z2))))))
def w60_L188 (K60 : Int32 → Int32 → (Nat → Int32) → (Nat → Int32) → (Nat → Int32) → (Nat → Int32) → (Nat → Int32) → Prop) (post : Int32 → (Nat → Int32) → (Nat → Int32) → (Nat → Int32) → (Nat → Int32) → (Nat → Int32) → Prop) : Nat → Int32 → Int32 → Int32 → Int32 → Int32 → (Nat → Int32) → (Nat → Int32) → (Nat → Int32) → (Nat → Int32) → (Nat → Int32) → Prop
  | 0 => fun _ _ _ _ _ _ _ _ _ _ => False
  | k + 1 => fun x1 x2 x3 x4 x5 iv g_small g_freeRows g_freeColumns g_smallMinor => (x1 ≤ x5 → ∀ z4 : Int32, z4 = x2 + 1 → K60 x1 z4 iv g_small g_freeRows g_freeColumns g_smallMinor) ∧ (¬ x1 ≤ x5 → vp_in ((6 * x5) + x2) 36 ∧ (¬ (iv 12) = 0 ∧ (∀ z5 : Int32, z5 = ((g_smallMinor (Int32.toNatClampNeg ((6 * x5) + x2))) * x4) - ((g_smallMinor (Int32.toNatClampNeg ((6 * x5) + x2))) * x4) / (iv 12) * (iv 12) → ∃ j219, w60_L219 K60 (w60_L188 K60 post k) post j219 x1 x2 x3 x4 x5 z5 x2 iv g_small g_freeRows g_freeColumns g_smallMinor)))
def w60_L102 (K60 : Int32 → Int32 → (Nat → Int32) → (Nat → Int32) → (Nat → Int32) → (Nat → Int32) → (Nat → Int32) → Prop) (post : Int32 → (Nat → Int32) → (Nat → Int32) → (Nat → Int32) → (Nat → Int32) → (Nat → Int32) → Prop) : Nat → Int32 → Int32 → Int32 → Int32 → (Nat → Int32) → (Nat → Int32) → (Nat → Int32) → (Nat → Int32) → (Nat → Int32) → Prop
  | 0 => fun _ _ _ _ _ _ _ _ _ => False
  | k + 1 => fun x1 x2 x3 x4 iv g_small g_freeRows g_freeColumns g_smallMinor => (x1 ≤ x4 → vp_in ((6 * x2) + x2) 36 ∧ (w52_wp (fun r178 v6 => ∀ z7 : Int32, z7 = x2 + 1 → ∃ j188, w60_L188 K60 post j188 x1 x2 x3 r178 z7 v6 g_small g_freeRows g_freeColumns g_smallMinor) (g_smallMinor (Int32.toNatClampNeg ((6 * x2) + x2))) iv)) ∧ (¬ x1 ≤ x4 → vp_in ((6 * x3) + x4) 36 ∧ (∀ z8 : Int32, z8 = g_smallMinor (Int32.toNatClampNeg ((6 * x3) + x4)) → vp_in ((6 * x2) + x4) 36 ∧ (∀ z9 : Int32, z9 = g_smallMinor (Int32.toNatClampNeg ((6 * x2) + x4)) → vp_in ((6 * x3) + x4) 36 ∧ (vp_in ((6 * x2) + x4) 36 ∧ (∀ z10 : Int32, z10 = x4 + 1 → (w60_L102 K60 post k) x1 x2 x3 z10 iv g_small g_freeRows g_freeColumns (upd (upd g_smallMinor (Int32.toNatClampNeg ((6 * x3) + x4)) z9) (Int32.toNatClampNeg ((6 * x2) + x4)) z8))))))
def w60_L92 (K60 : Int32 → Int32 → (Nat → Int32) → (Nat → Int32) → (Nat → Int32) → (Nat → Int32) → (Nat → Int32) → Prop) (post : Int32 → (Nat → Int32) → (Nat → Int32) → (Nat → Int32) → (Nat → Int32) → (Nat → Int32) → Prop) (x1 : Int32) (x2 : Int32) (x3 : Int32) (iv : Nat → Int32) (g_small : Nat → Int32) (g_freeRows : Nat → Int32) (g_freeColumns : Nat → Int32) (g_smallMinor : Nat → Int32) : Prop := (¬ x3 = x1 → ∃ j102, w60_L102 K60 post j102 x1 x2 x3 0 iv g_small g_freeRows g_freeColumns g_smallMinor) ∧ (x3 = x1 → post 0 iv g_small g_freeRows g_freeColumns g_smallMinor)
def w60_L67 (K60 : Int32 → Int32 → (Nat → Int32) → (Nat → Int32) → (Nat → Int32) → (Nat → Int32) → (Nat → Int32) → Prop) (post : Int32 → (Nat → Int32) → (Nat → Int32) → (Nat → Int32) → (Nat → Int32) → (Nat → Int32) → Prop) : Nat → Int32 → Int32 → Int32 → (Nat → Int32) → (Nat → Int32) → (Nat → Int32) → (Nat → Int32) → (Nat → Int32) → Prop
  | 0 => fun _ _ _ _ _ _ _ _ => False
  | k + 1 => fun x1 x2 x3 iv g_small g_freeRows g_freeColumns g_smallMinor => (x1 ≤ x3 → w60_L92 K60 post x1 x2 x3 iv g_small g_freeRows g_freeColumns g_smallMinor) ∧ (¬ x1 ≤ x3 → vp_in ((6 * x3) + x2) 36 ∧ ((¬ (g_smallMinor (Int32.toNatClampNeg ((6 * x3) + x2))) = 0 → w60_L92 K60 post x1 x2 x3 iv g_small g_freeRows g_freeColumns g_smallMinor) ∧ ((g_smallMinor (Int32.toNatClampNeg ((6 * x3) + x2))) = 0 → ∀ z11 : Int32, z11 = x3 + 1 → (w60_L67 K60 post k) x1 x2 z11 iv g_small g_freeRows g_freeColumns g_smallMinor)))
def w60_L60 (post : Int32 → (Nat → Int32) → (Nat → Int32) → (Nat → Int32) → (Nat → Int32) → (Nat → Int32) → Prop) : Nat → Int32 → Int32 → (Nat → Int32) → (Nat → Int32) → (Nat → Int32) → (Nat → Int32) → (Nat → Int32) → Prop
  | 0 => fun _ _ _ _ _ _ _ => False
  | k + 1 => fun x1 x2 iv g_small g_freeRows g_freeColumns g_smallMinor => (x1 ≤ x2 → post 1 iv g_small g_freeRows g_freeColumns g_smallMinor) ∧ (¬ x1 ≤ x2 → ∃ j67, w60_L67 (w60_L60 post k) post j67 x1 x2 x2 iv g_small g_freeRows g_freeColumns g_smallMinor)
def w60_L9 (K2 : Int32 → Int32 → (Nat → Int32) → (Nat → Int32) → (Nat → Int32) → (Nat → Int32) → (Nat → Int32) → Prop) (post : Int32 → (Nat → Int32) → (Nat → Int32) → (Nat → Int32) → (Nat → Int32) → (Nat → Int32) → Prop) : Nat → Int32 → Int32 → Int32 → (Nat → Int32) → (Nat → Int32) → (Nat → Int32) → (Nat → Int32) → (Nat → Int32) → Prop
  | 0 => fun _ _ _ _ _ _ _ _ => False
  | k + 1 => fun x1 x2 x3 iv g_small g_freeRows g_freeColumns g_smallMinor => (x1 ≤ x3 → ∀ z12 : Int32, z12 = x2 + 1 → K2 x1 z12 iv g_small g_freeRows g_freeColumns g_smallMinor) ∧ (¬ x1 ≤ x3 → vp_in x2 12 ∧ (vp_in x3 12 ∧ (vp_in ((12 * (g_freeRows (Int32.toNatClampNeg x2))) + (g_freeColumns (Int32.toNatClampNeg x3))) 156 ∧ (∀ z13 : Int32, z13 = g_small (Int32.toNatClampNeg ((12 * (g_freeRows (Int32.toNatClampNeg x2))) + (g_freeColumns (Int32.toNatClampNeg x3)))) → vp_in ((6 * x2) + x3) 36 ∧ (∀ z14 : Int32, z14 = x3 + 1 → (w60_L9 K2 post k) x1 x2 z14 iv g_small g_freeRows g_freeColumns (upd g_smallMinor (Int32.toNatClampNeg ((6 * x2) + x3)) z13))))))
def w60_L2 (post : Int32 → (Nat → Int32) → (Nat → Int32) → (Nat → Int32) → (Nat → Int32) → (Nat → Int32) → Prop) : Nat → Int32 → Int32 → (Nat → Int32) → (Nat → Int32) → (Nat → Int32) → (Nat → Int32) → (Nat → Int32) → Prop
  | 0 => fun _ _ _ _ _ _ _ => False
  | k + 1 => fun x1 x2 iv g_small g_freeRows g_freeColumns g_smallMinor => (x1 ≤ x2 → ∃ j60, w60_L60 post j60 x1 0 iv g_small g_freeRows g_freeColumns g_smallMinor) ∧ (¬ x1 ≤ x2 → ∃ j9, w60_L9 (w60_L2 post k) post j9 x1 x2 0 iv g_small g_freeRows g_freeColumns g_smallMinor)
def w60_wp (post : Int32 → (Nat → Int32) → (Nat → Int32) → (Nat → Int32) → (Nat → Int32) → (Nat → Int32) → Prop) (a1x : Int32) (iv : Nat → Int32) (g_small : Nat → Int32) (g_freeRows : Nat → Int32) (g_freeColumns : Nat → Int32) (g_smallMinor : Nat → Int32) : Prop := ∃ j2, w60_L2 post j2 a1x 0 iv g_small g_freeRows g_freeColumns g_smallMinor
set_option maxHeartbeats 8000000 in
set_option maxRecDepth 100000 in
theorem w60_met (l : Launch) (dC : Nat → ClassId) (dI : Nat → Nat → Nat) (sz : Nat) (h0 : Nat) (rf : Nat → Nat) (c_small : ClassId) (c_freeRows : ClassId) (c_freeColumns : ClassId) (c_smallMinor : ClassId) (a1x : Int32) (iv : Nat → Int32) (g_small : Nat → Int32) (g_freeRows : Nat → Int32) (g_freeColumns : Nat → Int32) (g_smallMinor : Nat → Int32) (post : Int32 → (Nat → Int32) → (Nat → Int32) → (Nat → Int32) → (Nat → Int32) → (Nat → Int32) → Prop) (hw : w60_wp post a1x iv g_small g_freeRows g_freeColumns g_smallMinor) : Met l px_y60 px_s60 ({ frames := 1, cells := 0, slots := 0, locals := 22 }) (va_Pc [.ref h0, .int a1x] (fun U => U.heap.size = sz ∧ va_P (dC, dI) vwCl [(h0, .inr (8, px_mf rf iv)), (rf 9, .inl (c_small, 156, .inl g_small)), (rf 14, .inl (c_freeRows, 12, .inl g_freeRows)), (rf 15, .inl (c_freeColumns, 12, .inl g_freeColumns)), (rf 17, .inl (c_smallMinor, 36, .inl g_smallMinor))] U.heap ∧ va_K (dC, dI) vwCl [(c_small, .int), (c_freeRows, .int), (c_freeColumns, .int), (c_smallMinor, .int)] U ∧ va_D (fun _ => True) [(h0, .inr (8, px_mf rf iv)), (rf 9, .inl (c_small, 156, .inl g_small)), (rf 14, .inl (c_freeRows, 12, .inl g_freeRows)), (rf 15, .inl (c_freeColumns, 12, .inl g_freeColumns)), (rf 17, .inl (c_smallMinor, 36, .inl g_smallMinor))] ∧ px_N U)) (va_Qi (fun (r : Int32) (u : (Nat → Int32) × (Nat → Int32) × (Nat → Int32) × (Nat → Int32) × (Nat → Int32)) => post r u.1 u.2.1 u.2.2.1 u.2.2.2.1 u.2.2.2.2) (fun (u : (Nat → Int32) × (Nat → Int32) × (Nat → Int32) × (Nat → Int32) × (Nat → Int32)) (t : State) => va_P (dC, dI) vwCl [(h0, .inr (8, px_mf rf u.1)), (rf 9, .inl (c_small, 156, .inl u.2.1)), (rf 14, .inl (c_freeRows, 12, .inl u.2.2.1)), (rf 15, .inl (c_freeColumns, 12, .inl u.2.2.2.1)), (rf 17, .inl (c_smallMinor, 36, .inl u.2.2.2.2))] t.heap ∧ va_K (dC, dI) vwCl [(c_small, .int), (c_freeRows, .int), (c_freeColumns, .int), (c_smallMinor, .int)] t ∧ va_D (va_A [(h0, .inr (8, px_mf rf iv)), (rf 9, .inl (c_small, 156, .inl g_small)), (rf 14, .inl (c_freeRows, 12, .inl g_freeRows)), (rf 15, .inl (c_freeColumns, 12, .inl g_freeColumns)), (rf 17, .inl (c_smallMinor, 36, .inl g_smallMinor))] sz) [(h0, .inr (8, px_mf rf u.1)), (rf 9, .inl (c_small, 156, .inl u.2.1)), (rf 14, .inl (c_freeRows, 12, .inl u.2.2.1)), (rf 15, .inl (c_freeColumns, 12, .inl u.2.2.2.1)), (rf 17, .inl (c_smallMinor, 36, .inl u.2.2.2.2))]) (va_A [(h0, .inr (8, px_mf rf iv)), (rf 9, .inl (c_small, 156, .inl g_small)), (rf 14, .inl (c_freeRows, 12, .inl g_freeRows)), (rf 15, .inl (c_freeColumns, 12, .inl g_freeColumns)), (rf 17, .inl (c_smallMinor, 36, .inl g_smallMinor))] sz)) 0 0 (va_A [(h0, .inr (8, px_mf rf iv)), (rf 9, .inl (c_small, 156, .inl g_small)), (rf 14, .inl (c_freeRows, 12, .inl g_freeRows)), (rf 15, .inl (c_freeColumns, 12, .inl g_freeColumns)), (rf 17, .inl (c_smallMinor, 36, .inl g_smallMinor))] sz) := by
  refine Met.ofW (cc := prog_15_method_15_code) (maxL := 8) (ret := (some .int)) (by decide) rfl ?_
  intro p e s m args below meth c s₁ B hml hv
  obtain ⟨rfl, hsz, hP, hK, hD0, hN⟩ := hv
  have hx := B.exec
  have hb := B.bytes
  have hr := B.returns
  have htw : ∀ w ∈ px_all, w.before _ s = true := fun w h => atoms_spec (ws := px_s60) B.pre w (List.mem_cons_of_mem _ h)
  have hown : s.vm.findClass "MatroidDeskModel" = some m.cls := findClass_of_methodNamed B.named
  have hlocks := B.notSynchronized
  subst hsz
  have hD := hD0.self (sz := s.heap.size)
  generalize hAe : va_A [(h0, .inr (8, px_mf rf iv)), (rf 9, .inl (c_small, 156, .inl g_small)), (rf 14, .inl (c_freeRows, 12, .inl g_freeRows)), (rf 15, .inl (c_freeColumns, 12, .inl g_freeColumns)), (rf 17, .inl (c_smallMinor, 36, .inl g_smallMinor))] s.heap.size = A at hD ⊢
  have hA : ∀ q : Nat, s.heap.size ≤ q → A q := fun q h => by rw [← hAe]; exact Or.inr h
  have hS : va_S A s.heap s.heap [] := va_S.rf
  have hP : va_P (dC, dI) vwCl [(h0, .inr (8, px_mf rf iv)), (rf 9, .inl (c_small, 156, .inl g_small)), (rf 14, .inl (c_freeRows, 12, .inl g_freeRows)), (rf 15, .inl (c_freeColumns, 12, .inl g_freeColumns)), (rf 17, .inl (c_smallMinor, 36, .inl g_smallMinor))] s.heap := hP
  have hl := lv_entry ([.ref h0, .int a1x]) (n := 8) (Nat.le_of_ble_eq_true rfl)
  rw [lg_entry_eq]
  generalize (lg_sl ([.ref h0, .int a1x]) ++ List.replicate (8 - (lg_sl ([.ref h0, .int a1x])).length) Slot.unset).toArray = ls at hl ⊢
  have hl : lv_has ls 8 [(0, .ref h0), (1, .int a1x)] := hl
  generalize hQ : MQ _ _ _ _ _ _ _ = Q
  have S60 : ∀ (k60 : Nat) (x1 : Int32) (x2 : Int32) (iv : Nat → Int32) (g_small : Nat → Int32) (g_freeRows : Nat → Int32) (g_freeColumns : Nat → Int32) (g_smallMinor : Nat → Int32) (H : Heap) (locs : List Loc) (ls : Array Slot), va_P (dC, dI) vwCl [(h0, .inr (8, px_mf rf iv)), (rf 9, .inl (c_small, 156, .inl g_small)), (rf 14, .inl (c_freeRows, 12, .inl g_freeRows)), (rf 15, .inl (c_freeColumns, 12, .inl g_freeColumns)), (rf 17, .inl (c_smallMinor, 36, .inl g_smallMinor))] H → va_D A [(h0, .inr (8, px_mf rf iv)), (rf 9, .inl (c_small, 156, .inl g_small)), (rf 14, .inl (c_freeRows, 12, .inl g_freeRows)), (rf 15, .inl (c_freeColumns, 12, .inl g_freeColumns)), (rf 17, .inl (c_smallMinor, 36, .inl g_smallMinor))] → va_S A s.heap H locs → lv_has ls 8 [(0, .ref h0), (1, .int x1), (2, .int x2)] → w60_L60 post k60 x1 x2 iv g_small g_freeRows g_freeColumns g_smallMinor → W p l e (headSpec px_s60 ({ frames := 1, cells := 0, slots := 0, locals := 22 })).room s m ([.ref h0, .int a1x]).toArray below meth c H locs 0 0 Q (F0 m 60 ls []) := by
    intro k60
    induction k60 with
    | zero => intro x1 x2 iv g_small g_freeRows g_freeColumns g_smallMinor H locs ls hP hD hS hl hw; exact False.elim hw
    | succ k60 ih60 =>
      have S188 : ∀ (k188 : Nat) (x1 : Int32) (x2 : Int32) (x3 : Int32) (x4 : Int32) (x5 : Int32) (iv : Nat → Int32) (g_small : Nat → Int32) (g_freeRows : Nat → Int32) (g_freeColumns : Nat → Int32) (g_smallMinor : Nat → Int32) (H : Heap) (locs : List Loc) (ls : Array Slot), va_P (dC, dI) vwCl [(h0, .inr (8, px_mf rf iv)), (rf 9, .inl (c_small, 156, .inl g_small)), (rf 14, .inl (c_freeRows, 12, .inl g_freeRows)), (rf 15, .inl (c_freeColumns, 12, .inl g_freeColumns)), (rf 17, .inl (c_smallMinor, 36, .inl g_smallMinor))] H → va_D A [(h0, .inr (8, px_mf rf iv)), (rf 9, .inl (c_small, 156, .inl g_small)), (rf 14, .inl (c_freeRows, 12, .inl g_freeRows)), (rf 15, .inl (c_freeColumns, 12, .inl g_freeColumns)), (rf 17, .inl (c_smallMinor, 36, .inl g_smallMinor))] → va_S A s.heap H locs → lv_has ls 8 [(0, .ref h0), (1, .int x1), (2, .int x2), (3, .int x3), (4, .int x4), (5, .int x5)] → w60_L188 (w60_L60 post k60) post k188 x1 x2 x3 x4 x5 iv g_small g_freeRows g_freeColumns g_smallMinor → W p l e (headSpec px_s60 ({ frames := 1, cells := 0, slots := 0, locals := 22 })).room s m ([.ref h0, .int a1x]).toArray below meth c H locs 0 0 Q (F0 m 188 ls []) := by
        intro k188
        induction k188 with
        | zero => intro x1 x2 x3 x4 x5 iv g_small g_freeRows g_freeColumns g_smallMinor H locs ls hP hD hS hl hw; exact False.elim hw
        | succ k188 ih188 =>
          have S219 : ∀ (k219 : Nat) (x1 : Int32) (x2 : Int32) (x3 : Int32) (x4 : Int32) (x5 : Int32) (x6 : Int32) (x7 : Int32) (iv : Nat → Int32) (g_small : Nat → Int32) (g_freeRows : Nat → Int32) (g_freeColumns : Nat → Int32) (g_smallMinor : Nat → Int32) (H : Heap) (locs : List Loc) (ls : Array Slot), va_P (dC, dI) vwCl [(h0, .inr (8, px_mf rf iv)), (rf 9, .inl (c_small, 156, .inl g_small)), (rf 14, .inl (c_freeRows, 12, .inl g_freeRows)), (rf 15, .inl (c_freeColumns, 12, .inl g_freeColumns)), (rf 17, .inl (c_smallMinor, 36, .inl g_smallMinor))] H → va_D A [(h0, .inr (8, px_mf rf iv)), (rf 9, .inl (c_small, 156, .inl g_small)), (rf 14, .inl (c_freeRows, 12, .inl g_freeRows)), (rf 15, .inl (c_freeColumns, 12, .inl g_freeColumns)), (rf 17, .inl (c_smallMinor, 36, .inl g_smallMinor))] → va_S A s.heap H locs → lv_has ls 8 [(0, .ref h0), (1, .int x1), (2, .int x2), (3, .int x3), (4, .int x4), (5, .int x5), (6, .int x6), (7, .int x7)] → w60_L219 (w60_L60 post k60) (w60_L188 (w60_L60 post k60) post k188) post k219 x1 x2 x3 x4 x5 x6 x7 iv g_small g_freeRows g_freeColumns g_smallMinor → W p l e (headSpec px_s60 ({ frames := 1, cells := 0, slots := 0, locals := 22 })).room s m ([.ref h0, .int a1x]).toArray below meth c H locs 0 0 Q (F0 m 219 ls []) := by
            intro k219
            induction k219 with
            | zero => intro x1 x2 x3 x4 x5 x6 x7 iv g_small g_freeRows g_freeColumns g_smallMinor H locs ls hP hD hS hl hw; exact False.elim hw
            | succ k219 ih219 =>
              intro x1 x2 x3 x4 x5 x6 x7 iv g_small g_freeRows g_freeColumns g_smallMinor H locs ls hP hD hS hl hw
              unfold w60_L219 at hw
              refine lv_iload hx hb px_d60_219 (lv_at hl 7 rfl) ?_
              refine lv_iload_n hx hb px_d60_221 rfl (lv_at hl 1 rfl) ?_
              refine lv_icmp_ge (tgt := 283) hx hb px_d60_222 (by decide) (fun c222 => ?_) (fun c222 => ?_)
              · have hw := hw.1 c222
                obtain ⟨z1, ez1⟩ : ∃ y : Int32, y = x5 + 1 := ⟨_, rfl⟩
                have hw := hw z1 ez1
                refine lv_iinc (v := z1) (lv' := [(5, .int z1), (0, .ref h0), (1, .int x1), (2, .int x2), (3, .int x3), (4, .int x4), (6, .int x6), (7, .int x7)]) hx hb px_d60_283 hl (k := 5) rfl (by rw [ez1]; rfl) (by decide) rfl (fun ls hl => ?_)
                refine lv_goto (tgt := 188) hx hb px_d60_286 (by decide) ?_
                exact ih188 x1 x2 x3 x4 z1 iv g_small g_freeRows g_freeColumns g_smallMinor H locs ls hP hD hS (lv_sub hl [1, 2, 3, 4, 5, 0] rfl) hw
              · have hw := hw.2 c222
                refine lv_aload_n hx hb px_d60_225 rfl (lv_at hl 0 rfl) ?_
                refine va_get (D := (dC, dI)) (ci := 8) (v := .ref (rf 17)) (C := "MatroidDeskModel") (T := px_T8) (N := 53) hx hb htw px_in8 hown hK hP 0 rfl rfl 17 (by decide) (htw _ px_w491) (fun _ h9 => h9) rfl px_d60_226 ?_
                refine lv_bipush (v := 6) hx hb px_d60_229 (by decide) ?_
                refine lv_iload hx hb px_d60_231 (lv_at hl 5 rfl) ?_
                refine lv_imul hx hb px_d60_233 ?_
                refine lv_iload hx hb px_d60_234 (lv_at hl 7 rfl) ?_
                refine lv_iadd hx hb px_d60_236 ?_
                refine lv_aload_n hx hb px_d60_237 rfl (lv_at hl 0 rfl) ?_
                refine va_get (D := (dC, dI)) (ci := 8) (v := .ref (rf 17)) (C := "MatroidDeskModel") (T := px_T8) (N := 53) hx hb htw px_in8 hown hK hP 0 rfl rfl 17 (by decide) (htw _ px_w491) (fun _ h9 => h9) rfl px_d60_238 ?_
                refine lv_bipush (v := 6) hx hb px_d60_241 (by decide) ?_
                refine lv_iload hx hb px_d60_243 (lv_at hl 5 rfl) ?_
                refine lv_imul hx hb px_d60_245 ?_
                refine lv_iload hx hb px_d60_246 (lv_at hl 7 rfl) ?_
                refine lv_iadd hx hb px_d60_248 ?_
                obtain ⟨hi249, hw⟩ := hw
                refine va_iald hx hb hK hP 4 3 rfl rfl hi249 px_d60_249 ?_
                refine lv_aload_n hx hb px_d60_250 rfl (lv_at hl 0 rfl) ?_
                refine va_get (D := (dC, dI)) (ci := 8) (v := .int (iv 12)) (C := "MatroidDeskModel") (T := px_T8) (N := 53) hx hb htw px_in8 hown hK hP 0 rfl rfl 12 (by decide) (htw _ px_w428) (fun _ h9 => h9) rfl px_d60_251 ?_
                refine lv_iload hx hb px_d60_254 (lv_at hl 6 rfl) ?_
                refine lv_isub hx hb px_d60_256 ?_
                refine lv_aload_n hx hb px_d60_257 rfl (lv_at hl 0 rfl) ?_
                refine va_get (D := (dC, dI)) (ci := 8) (v := .ref (rf 17)) (C := "MatroidDeskModel") (T := px_T8) (N := 53) hx hb htw px_in8 hown hK hP 0 rfl rfl 17 (by decide) (htw _ px_w491) (fun _ h9 => h9) rfl px_d60_258 ?_
                refine lv_bipush (v := 6) hx hb px_d60_261 (by decide) ?_
                refine lv_iload_n hx hb px_d60_263 rfl (lv_at hl 2 rfl) ?_
                refine lv_imul hx hb px_d60_264 ?_
                refine lv_iload hx hb px_d60_265 (lv_at hl 7 rfl) ?_
                refine lv_iadd hx hb px_d60_267 ?_
                obtain ⟨hi268, hw⟩ := hw
                refine va_iald hx hb hK hP 4 3 rfl rfl hi268 px_d60_268 ?_
                refine lv_imul hx hb px_d60_269 ?_
                refine lv_iadd hx hb px_d60_270 ?_
                refine lv_aload_n hx hb px_d60_271 rfl (lv_at hl 0 rfl) ?_
                refine va_get (D := (dC, dI)) (ci := 8) (v := .int (iv 12)) (C := "MatroidDeskModel") (T := px_T8) (N := 53) hx hb htw px_in8 hown hK hP 0 rfl rfl 12 (by decide) (htw _ px_w428) (fun _ h9 => h9) rfl px_d60_272 ?_
                obtain ⟨hd275, hw⟩ := hw
                refine lv_irem hx hb px_d60_275 hd275 ?_
                refine lv_topi (fun z2 ez2 => ?_)
                have hw := hw z2 ez2
                obtain ⟨hi276, hw⟩ := hw
                refine va_iast hx hb hK hP hD hS 4 3 rfl rfl hi276 px_d60_276 (fun H locs hP hD hS => ?_)
                have hP : va_P (dC, dI) vwCl [(h0, .inr (8, px_mf rf iv)), (rf 9, .inl (c_small, 156, .inl g_small)), (rf 14, .inl (c_freeRows, 12, .inl g_freeRows)), (rf 15, .inl (c_freeColumns, 12, .inl g_freeColumns)), (rf 17, .inl (c_smallMinor, 36, .inl (upd g_smallMinor (Int32.toNatClampNeg ((6 * x5) + x7)) z2)))] H := hP
                have hD : va_D A [(h0, .inr (8, px_mf rf iv)), (rf 9, .inl (c_small, 156, .inl g_small)), (rf 14, .inl (c_freeRows, 12, .inl g_freeRows)), (rf 15, .inl (c_freeColumns, 12, .inl g_freeColumns)), (rf 17, .inl (c_smallMinor, 36, .inl (upd g_smallMinor (Int32.toNatClampNeg ((6 * x5) + x7)) z2)))] := hD
                obtain ⟨z3, ez3⟩ : ∃ y : Int32, y = x7 + 1 := ⟨_, rfl⟩
                have hw := hw z3 ez3
                refine lv_iinc (v := z3) (lv' := [(7, .int z3), (0, .ref h0), (1, .int x1), (2, .int x2), (3, .int x3), (4, .int x4), (5, .int x5), (6, .int x6)]) hx hb px_d60_277 hl (k := 7) rfl (by rw [ez3]; rfl) (by decide) rfl (fun ls hl => ?_)
                refine lv_goto (tgt := 219) hx hb px_d60_280 (by decide) ?_
                exact ih219 x1 x2 x3 x4 x5 x6 z3 iv g_small g_freeRows g_freeColumns (upd g_smallMinor (Int32.toNatClampNeg ((6 * x5) + x7)) z2) H locs ls hP hD hS (lv_sub hl [1, 2, 3, 4, 5, 6, 7, 0] rfl) hw
          intro x1 x2 x3 x4 x5 iv g_small g_freeRows g_freeColumns g_smallMinor H locs ls hP hD hS hl hw
          unfold w60_L188 at hw
          refine lv_iload hx hb px_d60_188 (lv_at hl 5 rfl) ?_
          refine lv_iload_n hx hb px_d60_190 rfl (lv_at hl 1 rfl) ?_
          refine lv_icmp_ge (tgt := 289) hx hb px_d60_191 (by decide) (fun c191 => ?_) (fun c191 => ?_)
          · have hw := hw.1 c191
            obtain ⟨z4, ez4⟩ : ∃ y : Int32, y = x2 + 1 := ⟨_, rfl⟩
            have hw := hw z4 ez4
            refine lv_iinc (v := z4) (lv' := [(2, .int z4), (0, .ref h0), (1, .int x1), (3, .int x3), (4, .int x4), (5, .int x5)]) hx hb px_d60_289 hl (k := 2) rfl (by rw [ez4]; rfl) (by decide) rfl (fun ls hl => ?_)
            refine lv_goto (tgt := 60) hx hb px_d60_292 (by decide) ?_
            exact ih60 x1 z4 iv g_small g_freeRows g_freeColumns g_smallMinor H locs ls hP hD hS (lv_sub hl [1, 2, 0] rfl) hw
          · have hw := hw.2 c191
            refine lv_aload_n hx hb px_d60_194 rfl (lv_at hl 0 rfl) ?_
            refine va_get (D := (dC, dI)) (ci := 8) (v := .ref (rf 17)) (C := "MatroidDeskModel") (T := px_T8) (N := 53) hx hb htw px_in8 hown hK hP 0 rfl rfl 17 (by decide) (htw _ px_w491) (fun _ h9 => h9) rfl px_d60_195 ?_
            refine lv_bipush (v := 6) hx hb px_d60_198 (by decide) ?_
            refine lv_iload hx hb px_d60_200 (lv_at hl 5 rfl) ?_
            refine lv_imul hx hb px_d60_202 ?_
            refine lv_iload_n hx hb px_d60_203 rfl (lv_at hl 2 rfl) ?_
            refine lv_iadd hx hb px_d60_204 ?_
            obtain ⟨hi205, hw⟩ := hw
            refine va_iald hx hb hK hP 4 3 rfl rfl hi205 px_d60_205 ?_
            refine lv_iload hx hb px_d60_206 (lv_at hl 4 rfl) ?_
            refine lv_imul hx hb px_d60_208 ?_
            refine lv_aload_n hx hb px_d60_209 rfl (lv_at hl 0 rfl) ?_
            refine va_get (D := (dC, dI)) (ci := 8) (v := .int (iv 12)) (C := "MatroidDeskModel") (T := px_T8) (N := 53) hx hb htw px_in8 hown hK hP 0 rfl rfl 12 (by decide) (htw _ px_w428) (fun _ h9 => h9) rfl px_d60_210 ?_
            obtain ⟨hd213, hw⟩ := hw
            refine lv_irem hx hb px_d60_213 hd213 ?_
            refine lv_topi (fun z5 ez5 => ?_)
            have hw := hw z5 ez5
            refine lv_istore (lv' := [(6, .int z5), (0, .ref h0), (1, .int x1), (2, .int x2), (3, .int x3), (4, .int x4), (5, .int x5)]) hx hb px_d60_214 hl (by decide) rfl (fun ls hl => ?_)
            refine lv_iload_n hx hb px_d60_216 rfl (lv_at hl 3 rfl) ?_
            refine lv_istore (lv' := [(7, .int x2), (6, .int z5), (0, .ref h0), (1, .int x1), (2, .int x2), (3, .int x3), (4, .int x4), (5, .int x5)]) hx hb px_d60_217 hl (by decide) rfl (fun ls hl => ?_)
            obtain ⟨k9, hw⟩ := hw
            exact S219 k9 x1 x2 x3 x4 x5 z5 x2 iv g_small g_freeRows g_freeColumns g_smallMinor H locs ls hP hD hS (lv_sub hl [2, 3, 4, 5, 6, 7, 1, 0] rfl) hw
      have S102 : ∀ (k102 : Nat) (x1 : Int32) (x2 : Int32) (x3 : Int32) (x4 : Int32) (iv : Nat → Int32) (g_small : Nat → Int32) (g_freeRows : Nat → Int32) (g_freeColumns : Nat → Int32) (g_smallMinor : Nat → Int32) (H : Heap) (locs : List Loc) (ls : Array Slot), va_P (dC, dI) vwCl [(h0, .inr (8, px_mf rf iv)), (rf 9, .inl (c_small, 156, .inl g_small)), (rf 14, .inl (c_freeRows, 12, .inl g_freeRows)), (rf 15, .inl (c_freeColumns, 12, .inl g_freeColumns)), (rf 17, .inl (c_smallMinor, 36, .inl g_smallMinor))] H → va_D A [(h0, .inr (8, px_mf rf iv)), (rf 9, .inl (c_small, 156, .inl g_small)), (rf 14, .inl (c_freeRows, 12, .inl g_freeRows)), (rf 15, .inl (c_freeColumns, 12, .inl g_freeColumns)), (rf 17, .inl (c_smallMinor, 36, .inl g_smallMinor))] → va_S A s.heap H locs → lv_has ls 8 [(0, .ref h0), (1, .int x1), (2, .int x2), (3, .int x3), (4, .int x4)] → w60_L102 (w60_L60 post k60) post k102 x1 x2 x3 x4 iv g_small g_freeRows g_freeColumns g_smallMinor → W p l e (headSpec px_s60 ({ frames := 1, cells := 0, slots := 0, locals := 22 })).room s m ([.ref h0, .int a1x]).toArray below meth c H locs 0 0 Q (F0 m 102 ls []) := by
        intro k102
        induction k102 with
        | zero => intro x1 x2 x3 x4 iv g_small g_freeRows g_freeColumns g_smallMinor H locs ls hP hD hS hl hw; exact False.elim hw
        | succ k102 ih102 =>
          intro x1 x2 x3 x4 iv g_small g_freeRows g_freeColumns g_smallMinor H locs ls hP hD hS hl hw
          unfold w60_L102 at hw
          refine lv_iload hx hb px_d60_102 (lv_at hl 4 rfl) ?_
          refine lv_iload_n hx hb px_d60_104 rfl (lv_at hl 1 rfl) ?_
          refine lv_icmp_ge (tgt := 166) hx hb px_d60_105 (by decide) (fun c105 => ?_) (fun c105 => ?_)
          · have hw := hw.1 c105
            refine lv_aload_n hx hb px_d60_166 rfl (lv_at hl 0 rfl) ?_
            refine lv_aload_n hx hb px_d60_167 rfl (lv_at hl 0 rfl) ?_
            refine va_get (D := (dC, dI)) (ci := 8) (v := .ref (rf 17)) (C := "MatroidDeskModel") (T := px_T8) (N := 53) hx hb htw px_in8 hown hK hP 0 rfl rfl 17 (by decide) (htw _ px_w491) (fun _ h9 => h9) rfl px_d60_168 ?_
            refine lv_bipush (v := 6) hx hb px_d60_171 (by decide) ?_
            refine lv_iload_n hx hb px_d60_173 rfl (lv_at hl 2 rfl) ?_
            refine lv_imul hx hb px_d60_174 ?_
            refine lv_iload_n hx hb px_d60_175 rfl (lv_at hl 2 rfl) ?_
            refine lv_iadd hx hb px_d60_176 ?_
            obtain ⟨hi177, hw⟩ := hw
            refine va_iald hx hb hK hP 4 3 rfl rfl hi177 px_d60_177 ?_
            have hPc := hP.sub (ws' := [(h0, .inr (8, px_mf rf iv))]) [0] rfl
            have hDc := hD.sub (ws' := [(h0, .inr (8, px_mf rf iv))]) [0] (by decide) rfl
            have hKc := hK.sub (tys' := []) [] rfl
            have hFc := va_free (wc := [(h0, .inr (8, px_mf rf iv))]) hD hS hA [0] rfl
            refine va_calli (va_runV (As := [.int (g_smallMinor (Int32.toNatClampNeg ((6 * x2) + x2)))]) (rest := []) ⟨hx, hb, hml, hown, htw⟩ (w52_met l dC dI H.size h0 rf (g_smallMinor (Int32.toNatClampNeg ((6 * x2) + x2))) iv _ hw) (cwV 1 htw (px_gv px_w450 px_w445 px_w446 px_w94 px_g52) rfl rfl rfl (by decide +kernel) ⟨Nat.le_of_ble_eq_true rfl, Nat.le_of_ble_eq_true rfl⟩) ⟨fun a U g mk q => by obtain ⟨q0, q1, qP, qK, qD, qN⟩ := q; exact ⟨q0, q1, qP, va_K.moved (u := U) (U := U.calling g mk a) (Vm.Alike.refl U.vm) qK, qD, qN.same rfl⟩, va_recv hK hP (ci := 8) (q0 := 0) rfl rfl, fun U hU hW => ⟨rfl, by rw [hU], by rw [hU]; exact hPc, va_K.moved hW.alike hKc, hDc.weaken (fun _ _ _ _ => trivial), hN.warm hW⟩⟩ rfl rfl hl.1 rfl (lv_room (Nat.le_of_ble_eq_true rfl)) px_d60_178 ⟨(Nat.le_of_ble_eq_true rfl), (Nat.le_of_ble_eq_true rfl)⟩) hS (fun q _ h => hFc q h) hFc (fun r178 u t H1 locs ht hvm hw hB hz1 hk1 hS => ?_)
            obtain ⟨v6, rfl⟩ : ∃ z, z = u := ⟨_, rfl⟩
            obtain ⟨hP1, hK1, hD1⟩ := hB
            rw [ht] at hP1
            have hK1 := va_K.moved hvm.symm hK1
            obtain ⟨hP, hD⟩ := va_join (wr := [(rf 9, .inl (c_small, 156, .inl g_small)), (rf 14, .inl (c_freeRows, 12, .inl g_freeRows)), (rf 15, .inl (c_freeColumns, 12, .inl g_freeColumns)), (rf 17, .inl (c_smallMinor, 36, .inl g_smallMinor))]) (w1 := [(h0, .inr (8, px_mf rf v6))]) hP hD [0] [1, 2, 3, 4] rfl rfl (by decide) (by decide) hk1 hFc hP1 hD1
            generalize H1 = H at hP hS ⊢
            have hP : va_P (dC, dI) vwCl [(rf 9, .inl (c_small, 156, .inl g_small)), (rf 14, .inl (c_freeRows, 12, .inl g_freeRows)), (rf 15, .inl (c_freeColumns, 12, .inl g_freeColumns)), (rf 17, .inl (c_smallMinor, 36, .inl g_smallMinor)), (h0, .inr (8, px_mf rf v6))] H := hP
            have hD : va_D A [(rf 9, .inl (c_small, 156, .inl g_small)), (rf 14, .inl (c_freeRows, 12, .inl g_freeRows)), (rf 15, .inl (c_freeColumns, 12, .inl g_freeColumns)), (rf 17, .inl (c_smallMinor, 36, .inl g_smallMinor)), (h0, .inr (8, px_mf rf v6))] := hD
            have hP := hP.sub (ws' := [(h0, .inr (8, px_mf rf v6)), (rf 9, .inl (c_small, 156, .inl g_small)), (rf 14, .inl (c_freeRows, 12, .inl g_freeRows)), (rf 15, .inl (c_freeColumns, 12, .inl g_freeColumns)), (rf 17, .inl (c_smallMinor, 36, .inl g_smallMinor))]) [4, 0, 1, 2, 3] rfl
            have hD := hD.sub (ws' := [(h0, .inr (8, px_mf rf v6)), (rf 9, .inl (c_small, 156, .inl g_small)), (rf 14, .inl (c_freeRows, 12, .inl g_freeRows)), (rf 15, .inl (c_freeColumns, 12, .inl g_freeColumns)), (rf 17, .inl (c_smallMinor, 36, .inl g_smallMinor))]) [4, 0, 1, 2, 3] (by decide) rfl
            refine lv_istore (lv' := [(4, .int r178), (0, .ref h0), (1, .int x1), (2, .int x2), (3, .int x3)]) hx hb px_d60_181 hl (by decide) rfl (fun ls hl => ?_)
            refine lv_iload_n hx hb px_d60_183 rfl (lv_at hl 3 rfl) ?_
            refine lv_iconst (v := 1) hx hb px_d60_184 (by decide) ?_
            refine lv_iadd hx hb px_d60_185 ?_
            refine lv_topi (fun z7 ez7 => ?_)
            have hw := hw z7 ez7
            refine lv_istore (lv' := [(5, .int z7), (4, .int r178), (0, .ref h0), (1, .int x1), (2, .int x2), (3, .int x3)]) hx hb px_d60_186 hl (by decide) rfl (fun ls hl => ?_)
            obtain ⟨k9, hw⟩ := hw
            exact S188 k9 x1 x2 x3 r178 z7 v6 g_small g_freeRows g_freeColumns g_smallMinor H locs ls hP hD hS (lv_sub hl [2, 3, 4, 5, 1, 0] rfl) hw
          · have hw := hw.2 c105
            refine lv_aload_n hx hb px_d60_108 rfl (lv_at hl 0 rfl) ?_
            refine va_get (D := (dC, dI)) (ci := 8) (v := .ref (rf 17)) (C := "MatroidDeskModel") (T := px_T8) (N := 53) hx hb htw px_in8 hown hK hP 0 rfl rfl 17 (by decide) (htw _ px_w491) (fun _ h9 => h9) rfl px_d60_109 ?_
            refine lv_bipush (v := 6) hx hb px_d60_112 (by decide) ?_
            refine lv_iload_n hx hb px_d60_114 rfl (lv_at hl 3 rfl) ?_
            refine lv_imul hx hb px_d60_115 ?_
            refine lv_iload hx hb px_d60_116 (lv_at hl 4 rfl) ?_
            refine lv_iadd hx hb px_d60_118 ?_
            obtain ⟨hi119, hw⟩ := hw
            refine va_iald hx hb hK hP 4 3 rfl rfl hi119 px_d60_119 ?_
            refine lv_topi (fun z8 ez8 => ?_)
            have hw := hw z8 ez8
            refine lv_istore (lv' := [(5, .int z8), (0, .ref h0), (1, .int x1), (2, .int x2), (3, .int x3), (4, .int x4)]) hx hb px_d60_120 hl (by decide) rfl (fun ls hl => ?_)
            refine lv_aload_n hx hb px_d60_122 rfl (lv_at hl 1 rfl) ?_
            refine va_get (D := (dC, dI)) (ci := 8) (v := .ref (rf 17)) (C := "MatroidDeskModel") (T := px_T8) (N := 53) hx hb htw px_in8 hown hK hP 0 rfl rfl 17 (by decide) (htw _ px_w491) (fun _ h9 => h9) rfl px_d60_123 ?_
            refine lv_bipush (v := 6) hx hb px_d60_126 (by decide) ?_
            refine lv_iload_n hx hb px_d60_128 rfl (lv_at hl 4 rfl) ?_
            refine lv_imul hx hb px_d60_129 ?_
            refine lv_iload hx hb px_d60_130 (lv_at hl 5 rfl) ?_
            refine lv_iadd hx hb px_d60_132 ?_
            refine lv_aload_n hx hb px_d60_133 rfl (lv_at hl 1 rfl) ?_
            refine va_get (D := (dC, dI)) (ci := 8) (v := .ref (rf 17)) (C := "MatroidDeskModel") (T := px_T8) (N := 53) hx hb htw px_in8 hown hK hP 0 rfl rfl 17 (by decide) (htw _ px_w491) (fun _ h9 => h9) rfl px_d60_134 ?_
            refine lv_bipush (v := 6) hx hb px_d60_137 (by decide) ?_
            refine lv_iload_n hx hb px_d60_139 rfl (lv_at hl 3 rfl) ?_
            refine lv_imul hx hb px_d60_140 ?_
            refine lv_iload hx hb px_d60_141 (lv_at hl 5 rfl) ?_
            refine lv_iadd hx hb px_d60_143 ?_
            obtain ⟨hi144, hw⟩ := hw
            refine va_iald hx hb hK hP 4 3 rfl rfl hi144 px_d60_144 ?_
            refine lv_topi (fun z9 ez9 => ?_)
            have hw := hw z9 ez9
            obtain ⟨hi145, hw⟩ := hw
            refine va_iast hx hb hK hP hD hS 4 3 rfl rfl hi145 px_d60_145 (fun H locs hP hD hS => ?_)
            have hP : va_P (dC, dI) vwCl [(h0, .inr (8, px_mf rf iv)), (rf 9, .inl (c_small, 156, .inl g_small)), (rf 14, .inl (c_freeRows, 12, .inl g_freeRows)), (rf 15, .inl (c_freeColumns, 12, .inl g_freeColumns)), (rf 17, .inl (c_smallMinor, 36, .inl (upd g_smallMinor (Int32.toNatClampNeg ((6 * x3) + x4)) z9)))] H := hP
            have hD : va_D A [(h0, .inr (8, px_mf rf iv)), (rf 9, .inl (c_small, 156, .inl g_small)), (rf 14, .inl (c_freeRows, 12, .inl g_freeRows)), (rf 15, .inl (c_freeColumns, 12, .inl g_freeColumns)), (rf 17, .inl (c_smallMinor, 36, .inl (upd g_smallMinor (Int32.toNatClampNeg ((6 * x3) + x4)) z9)))] := hD
            refine lv_aload_n hx hb px_d60_146 rfl (lv_at hl 1 rfl) ?_
            refine va_get (D := (dC, dI)) (ci := 8) (v := .ref (rf 17)) (C := "MatroidDeskModel") (T := px_T8) (N := 53) hx hb htw px_in8 hown hK hP 0 rfl rfl 17 (by decide) (htw _ px_w491) (fun _ h9 => h9) rfl px_d60_147 ?_
            refine lv_bipush (v := 6) hx hb px_d60_150 (by decide) ?_
            refine lv_iload_n hx hb px_d60_152 rfl (lv_at hl 3 rfl) ?_
            refine lv_imul hx hb px_d60_153 ?_
            refine lv_iload hx hb px_d60_154 (lv_at hl 5 rfl) ?_
            refine lv_iadd hx hb px_d60_156 ?_
            refine lv_iload hx hb px_d60_157 (lv_at hl 0 rfl) ?_
            obtain ⟨hi159, hw⟩ := hw
            refine va_iast hx hb hK hP hD hS 4 3 rfl rfl hi159 px_d60_159 (fun H locs hP hD hS => ?_)
            have hP : va_P (dC, dI) vwCl [(h0, .inr (8, px_mf rf iv)), (rf 9, .inl (c_small, 156, .inl g_small)), (rf 14, .inl (c_freeRows, 12, .inl g_freeRows)), (rf 15, .inl (c_freeColumns, 12, .inl g_freeColumns)), (rf 17, .inl (c_smallMinor, 36, .inl (upd (upd g_smallMinor (Int32.toNatClampNeg ((6 * x3) + x4)) z9) (Int32.toNatClampNeg ((6 * x2) + x4)) z8)))] H := hP
            have hD : va_D A [(h0, .inr (8, px_mf rf iv)), (rf 9, .inl (c_small, 156, .inl g_small)), (rf 14, .inl (c_freeRows, 12, .inl g_freeRows)), (rf 15, .inl (c_freeColumns, 12, .inl g_freeColumns)), (rf 17, .inl (c_smallMinor, 36, .inl (upd (upd g_smallMinor (Int32.toNatClampNeg ((6 * x3) + x4)) z9) (Int32.toNatClampNeg ((6 * x2) + x4)) z8)))] := hD
            obtain ⟨z10, ez10⟩ : ∃ y : Int32, y = x4 + 1 := ⟨_, rfl⟩
            have hw := hw z10 ez10
            refine lv_iinc (v := z10) (lv' := [(4, .int z10), (5, .int z8), (0, .ref h0), (1, .int x1), (2, .int x2), (3, .int x3)]) hx hb px_d60_160 hl (k := 5) rfl (by rw [ez10]; rfl) (by decide) rfl (fun ls hl => ?_)
            refine lv_goto (tgt := 102) hx hb px_d60_163 (by decide) ?_
            exact ih102 x1 x2 x3 z10 iv g_small g_freeRows g_freeColumns (upd (upd g_smallMinor (Int32.toNatClampNeg ((6 * x3) + x4)) z9) (Int32.toNatClampNeg ((6 * x2) + x4)) z8) H locs ls hP hD hS (lv_sub hl [2, 3, 4, 5, 0] rfl) hw
      have S92 : ∀ (x1 : Int32) (x2 : Int32) (x3 : Int32) (iv : Nat → Int32) (g_small : Nat → Int32) (g_freeRows : Nat → Int32) (g_freeColumns : Nat → Int32) (g_smallMinor : Nat → Int32) (H : Heap) (locs : List Loc) (ls : Array Slot), va_P (dC, dI) vwCl [(h0, .inr (8, px_mf rf iv)), (rf 9, .inl (c_small, 156, .inl g_small)), (rf 14, .inl (c_freeRows, 12, .inl g_freeRows)), (rf 15, .inl (c_freeColumns, 12, .inl g_freeColumns)), (rf 17, .inl (c_smallMinor, 36, .inl g_smallMinor))] H → va_D A [(h0, .inr (8, px_mf rf iv)), (rf 9, .inl (c_small, 156, .inl g_small)), (rf 14, .inl (c_freeRows, 12, .inl g_freeRows)), (rf 15, .inl (c_freeColumns, 12, .inl g_freeColumns)), (rf 17, .inl (c_smallMinor, 36, .inl g_smallMinor))] → va_S A s.heap H locs → lv_has ls 8 [(0, .ref h0), (1, .int x1), (2, .int x2), (3, .int x3)] → w60_L92 (w60_L60 post k60) post x1 x2 x3 iv g_small g_freeRows g_freeColumns g_smallMinor → W p l e (headSpec px_s60 ({ frames := 1, cells := 0, slots := 0, locals := 22 })).room s m ([.ref h0, .int a1x]).toArray below meth c H locs 0 0 Q (F0 m 92 ls []) := by
        intro x1 x2 x3 iv g_small g_freeRows g_freeColumns g_smallMinor H locs ls hP hD hS hl hw
        unfold w60_L92 at hw
        refine lv_iload_n hx hb px_d60_92 rfl (lv_at hl 3 rfl) ?_
        refine lv_iload_n hx hb px_d60_93 rfl (lv_at hl 1 rfl) ?_
        refine lv_icmp_ne (tgt := 99) hx hb px_d60_94 (by decide) (fun c94 => ?_) (fun c94 => ?_)
        · have hw := hw.1 c94
          refine lv_iconst (v := 0) hx hb px_d60_99 (by decide) ?_
          refine lv_istore (lv' := [(4, .int 0), (0, .ref h0), (1, .int x1), (2, .int x2), (3, .int x3)]) hx hb px_d60_100 hl (by decide) rfl (fun ls hl => ?_)
          obtain ⟨k9, hw⟩ := hw
          exact S102 k9 x1 x2 x3 0 iv g_small g_freeRows g_freeColumns g_smallMinor H locs ls hP hD hS (lv_sub hl [1, 2, 3, 4, 0] rfl) hw
        · have hw := hw.2 c94
          refine lv_iconst (v := 0) hx hb px_d60_97 (by decide) ?_
          rw [← hQ]
          exact W.iret (v := 0) hx hb hr (fun t ht hW => ⟨⟨0, (iv, g_small, g_freeRows, g_freeColumns, g_smallMinor), rfl, hw, by rw [ht]; exact hP, va_K.moved hW.alike hK, hD⟩, hS.F ht⟩) hS.2.2 px_d60_98
      have S67 : ∀ (k67 : Nat) (x1 : Int32) (x2 : Int32) (x3 : Int32) (iv : Nat → Int32) (g_small : Nat → Int32) (g_freeRows : Nat → Int32) (g_freeColumns : Nat → Int32) (g_smallMinor : Nat → Int32) (H : Heap) (locs : List Loc) (ls : Array Slot), va_P (dC, dI) vwCl [(h0, .inr (8, px_mf rf iv)), (rf 9, .inl (c_small, 156, .inl g_small)), (rf 14, .inl (c_freeRows, 12, .inl g_freeRows)), (rf 15, .inl (c_freeColumns, 12, .inl g_freeColumns)), (rf 17, .inl (c_smallMinor, 36, .inl g_smallMinor))] H → va_D A [(h0, .inr (8, px_mf rf iv)), (rf 9, .inl (c_small, 156, .inl g_small)), (rf 14, .inl (c_freeRows, 12, .inl g_freeRows)), (rf 15, .inl (c_freeColumns, 12, .inl g_freeColumns)), (rf 17, .inl (c_smallMinor, 36, .inl g_smallMinor))] → va_S A s.heap H locs → lv_has ls 8 [(0, .ref h0), (1, .int x1), (2, .int x2), (3, .int x3)] → w60_L67 (w60_L60 post k60) post k67 x1 x2 x3 iv g_small g_freeRows g_freeColumns g_smallMinor → W p l e (headSpec px_s60 ({ frames := 1, cells := 0, slots := 0, locals := 22 })).room s m ([.ref h0, .int a1x]).toArray below meth c H locs 0 0 Q (F0 m 67 ls []) := by
        intro k67
        induction k67 with
        | zero => intro x1 x2 x3 iv g_small g_freeRows g_freeColumns g_smallMinor H locs ls hP hD hS hl hw; exact False.elim hw
        | succ k67 ih67 =>
          intro x1 x2 x3 iv g_small g_freeRows g_freeColumns g_smallMinor H locs ls hP hD hS hl hw
          unfold w60_L67 at hw
          refine lv_iload_n hx hb px_d60_67 rfl (lv_at hl 3 rfl) ?_
          refine lv_iload_n hx hb px_d60_68 rfl (lv_at hl 1 rfl) ?_
          refine lv_icmp_ge (tgt := 92) hx hb px_d60_69 (by decide) (fun c69 => ?_) (fun c69 => ?_)
          · have hw := hw.1 c69
            exact S92 x1 x2 x3 iv g_small g_freeRows g_freeColumns g_smallMinor H locs ls hP hD hS (lv_sub hl [0, 1, 2, 3] rfl) hw
          · have hw := hw.2 c69
            refine lv_aload_n hx hb px_d60_72 rfl (lv_at hl 0 rfl) ?_
            refine va_get (D := (dC, dI)) (ci := 8) (v := .ref (rf 17)) (C := "MatroidDeskModel") (T := px_T8) (N := 53) hx hb htw px_in8 hown hK hP 0 rfl rfl 17 (by decide) (htw _ px_w491) (fun _ h9 => h9) rfl px_d60_73 ?_
            refine lv_bipush (v := 6) hx hb px_d60_76 (by decide) ?_
            refine lv_iload_n hx hb px_d60_78 rfl (lv_at hl 3 rfl) ?_
            refine lv_imul hx hb px_d60_79 ?_
            refine lv_iload_n hx hb px_d60_80 rfl (lv_at hl 2 rfl) ?_
            refine lv_iadd hx hb px_d60_81 ?_
            obtain ⟨hi82, hw⟩ := hw
            refine va_iald hx hb hK hP 4 3 rfl rfl hi82 px_d60_82 ?_
            refine lv_if_ne (tgt := 92) hx hb px_d60_83 (by decide) (fun c83 => ?_) (fun c83 => ?_)
            · have hw := hw.1 c83
              exact S92 x1 x2 x3 iv g_small g_freeRows g_freeColumns g_smallMinor H locs ls hP hD hS (lv_sub hl [0, 1, 2, 3] rfl) hw
            · have hw := hw.2 c83
              obtain ⟨z11, ez11⟩ : ∃ y : Int32, y = x3 + 1 := ⟨_, rfl⟩
              have hw := hw z11 ez11
              refine lv_iinc (v := z11) (lv' := [(3, .int z11), (0, .ref h0), (1, .int x1), (2, .int x2)]) hx hb px_d60_86 hl (k := 3) rfl (by rw [ez11]; rfl) (by decide) rfl (fun ls hl => ?_)
              refine lv_goto (tgt := 67) hx hb px_d60_89 (by decide) ?_
              exact ih67 x1 x2 z11 iv g_small g_freeRows g_freeColumns g_smallMinor H locs ls hP hD hS (lv_sub hl [1, 2, 3, 0] rfl) hw
      intro x1 x2 iv g_small g_freeRows g_freeColumns g_smallMinor H locs ls hP hD hS hl hw
      unfold w60_L60 at hw
      refine lv_iload_n hx hb px_d60_60 rfl (lv_at hl 2 rfl) ?_
      refine lv_iload_n hx hb px_d60_61 rfl (lv_at hl 1 rfl) ?_
      refine lv_icmp_ge (tgt := 295) hx hb px_d60_62 (by decide) (fun c62 => ?_) (fun c62 => ?_)
      · have hw := hw.1 c62
        refine lv_iconst (v := 1) hx hb px_d60_295 (by decide) ?_
        rw [← hQ]
        exact W.iret (v := 1) hx hb hr (fun t ht hW => ⟨⟨1, (iv, g_small, g_freeRows, g_freeColumns, g_smallMinor), rfl, hw, by rw [ht]; exact hP, va_K.moved hW.alike hK, hD⟩, hS.F ht⟩) hS.2.2 px_d60_296
      · have hw := hw.2 c62
        refine lv_iload_n hx hb px_d60_65 rfl (lv_at hl 2 rfl) ?_
        refine lv_istore_n (lv' := [(3, .int x2), (0, .ref h0), (1, .int x1), (2, .int x2)]) hx hb px_d60_66 rfl hl (by decide) rfl (fun ls hl => ?_)
        obtain ⟨k9, hw⟩ := hw
        exact S67 k9 x1 x2 x2 iv g_small g_freeRows g_freeColumns g_smallMinor H locs ls hP hD hS (lv_sub hl [1, 2, 3, 0] rfl) hw
  have S2 : ∀ (k2 : Nat) (x1 : Int32) (x2 : Int32) (iv : Nat → Int32) (g_small : Nat → Int32) (g_freeRows : Nat → Int32) (g_freeColumns : Nat → Int32) (g_smallMinor : Nat → Int32) (H : Heap) (locs : List Loc) (ls : Array Slot), va_P (dC, dI) vwCl [(h0, .inr (8, px_mf rf iv)), (rf 9, .inl (c_small, 156, .inl g_small)), (rf 14, .inl (c_freeRows, 12, .inl g_freeRows)), (rf 15, .inl (c_freeColumns, 12, .inl g_freeColumns)), (rf 17, .inl (c_smallMinor, 36, .inl g_smallMinor))] H → va_D A [(h0, .inr (8, px_mf rf iv)), (rf 9, .inl (c_small, 156, .inl g_small)), (rf 14, .inl (c_freeRows, 12, .inl g_freeRows)), (rf 15, .inl (c_freeColumns, 12, .inl g_freeColumns)), (rf 17, .inl (c_smallMinor, 36, .inl g_smallMinor))] → va_S A s.heap H locs → lv_has ls 8 [(0, .ref h0), (1, .int x1), (2, .int x2)] → w60_L2 post k2 x1 x2 iv g_small g_freeRows g_freeColumns g_smallMinor → W p l e (headSpec px_s60 ({ frames := 1, cells := 0, slots := 0, locals := 22 })).room s m ([.ref h0, .int a1x]).toArray below meth c H locs 0 0 Q (F0 m 2 ls []) := by
    intro k2
    induction k2 with
    | zero => intro x1 x2 iv g_small g_freeRows g_freeColumns g_smallMinor H locs ls hP hD hS hl hw; exact False.elim hw
    | succ k2 ih2 =>
      have S9 : ∀ (k9 : Nat) (x1 : Int32) (x2 : Int32) (x3 : Int32) (iv : Nat → Int32) (g_small : Nat → Int32) (g_freeRows : Nat → Int32) (g_freeColumns : Nat → Int32) (g_smallMinor : Nat → Int32) (H : Heap) (locs : List Loc) (ls : Array Slot), va_P (dC, dI) vwCl [(h0, .inr (8, px_mf rf iv)), (rf 9, .inl (c_small, 156, .inl g_small)), (rf 14, .inl (c_freeRows, 12, .inl g_freeRows)), (rf 15, .inl (c_freeColumns, 12, .inl g_freeColumns)), (rf 17, .inl (c_smallMinor, 36, .inl g_smallMinor))] H → va_D A [(h0, .inr (8, px_mf rf iv)), (rf 9, .inl (c_small, 156, .inl g_small)), (rf 14, .inl (c_freeRows, 12, .inl g_freeRows)), (rf 15, .inl (c_freeColumns, 12, .inl g_freeColumns)), (rf 17, .inl (c_smallMinor, 36, .inl g_smallMinor))] → va_S A s.heap H locs → lv_has ls 8 [(0, .ref h0), (1, .int x1), (2, .int x2), (3, .int x3)] → w60_L9 (w60_L2 post k2) post k9 x1 x2 x3 iv g_small g_freeRows g_freeColumns g_smallMinor → W p l e (headSpec px_s60 ({ frames := 1, cells := 0, slots := 0, locals := 22 })).room s m ([.ref h0, .int a1x]).toArray below meth c H locs 0 0 Q (F0 m 9 ls []) := by
        intro k9
        induction k9 with
        | zero => intro x1 x2 x3 iv g_small g_freeRows g_freeColumns g_smallMinor H locs ls hP hD hS hl hw; exact False.elim hw
        | succ k9 ih9 =>
          intro x1 x2 x3 iv g_small g_freeRows g_freeColumns g_smallMinor H locs ls hP hD hS hl hw
          unfold w60_L9 at hw
          refine lv_iload_n hx hb px_d60_9 rfl (lv_at hl 3 rfl) ?_
          refine lv_iload_n hx hb px_d60_10 rfl (lv_at hl 1 rfl) ?_
          refine lv_icmp_ge (tgt := 52) hx hb px_d60_11 (by decide) (fun c11 => ?_) (fun c11 => ?_)
          · have hw := hw.1 c11
            obtain ⟨z12, ez12⟩ : ∃ y : Int32, y = x2 + 1 := ⟨_, rfl⟩
            have hw := hw z12 ez12
            refine lv_iinc (v := z12) (lv' := [(2, .int z12), (0, .ref h0), (1, .int x1), (3, .int x3)]) hx hb px_d60_52 hl (k := 2) rfl (by rw [ez12]; rfl) (by decide) rfl (fun ls hl => ?_)
            refine lv_goto (tgt := 2) hx hb px_d60_55 (by decide) ?_
            exact ih2 x1 z12 iv g_small g_freeRows g_freeColumns g_smallMinor H locs ls hP hD hS (lv_sub hl [1, 2, 0] rfl) hw
          · have hw := hw.2 c11
            refine lv_aload_n hx hb px_d60_14 rfl (lv_at hl 0 rfl) ?_
            refine va_get (D := (dC, dI)) (ci := 8) (v := .ref (rf 17)) (C := "MatroidDeskModel") (T := px_T8) (N := 53) hx hb htw px_in8 hown hK hP 0 rfl rfl 17 (by decide) (htw _ px_w491) (fun _ h9 => h9) rfl px_d60_15 ?_
            refine lv_bipush (v := 6) hx hb px_d60_18 (by decide) ?_
            refine lv_iload_n hx hb px_d60_20 rfl (lv_at hl 2 rfl) ?_
            refine lv_imul hx hb px_d60_21 ?_
            refine lv_iload_n hx hb px_d60_22 rfl (lv_at hl 3 rfl) ?_
            refine lv_iadd hx hb px_d60_23 ?_
            refine lv_aload_n hx hb px_d60_24 rfl (lv_at hl 0 rfl) ?_
            refine va_get (D := (dC, dI)) (ci := 8) (v := .ref (rf 9)) (C := "MatroidDeskModel") (T := px_T8) (N := 53) hx hb htw px_in8 hown hK hP 0 rfl rfl 9 (by decide) (htw _ px_w436) (fun _ h9 => h9) rfl px_d60_25 ?_
            refine lv_bipush (v := 12) hx hb px_d60_28 (by decide) ?_
            refine lv_aload_n hx hb px_d60_30 rfl (lv_at hl 0 rfl) ?_
            refine va_get (D := (dC, dI)) (ci := 8) (v := .ref (rf 14)) (C := "MatroidDeskModel") (T := px_T8) (N := 53) hx hb htw px_in8 hown hK hP 0 rfl rfl 14 (by decide) (htw _ px_w479) (fun _ h9 => h9) rfl px_d60_31 ?_
            refine lv_iload_n hx hb px_d60_34 rfl (lv_at hl 2 rfl) ?_
            obtain ⟨hi35, hw⟩ := hw
            refine va_iald hx hb hK hP 2 1 rfl rfl hi35 px_d60_35 ?_
            refine lv_imul hx hb px_d60_36 ?_
            refine lv_aload_n hx hb px_d60_37 rfl (lv_at hl 0 rfl) ?_
            refine va_get (D := (dC, dI)) (ci := 8) (v := .ref (rf 15)) (C := "MatroidDeskModel") (T := px_T8) (N := 53) hx hb htw px_in8 hown hK hP 0 rfl rfl 15 (by decide) (htw _ px_w478) (fun _ h9 => h9) rfl px_d60_38 ?_
            refine lv_iload_n hx hb px_d60_41 rfl (lv_at hl 3 rfl) ?_
            obtain ⟨hi42, hw⟩ := hw
            refine va_iald hx hb hK hP 3 2 rfl rfl hi42 px_d60_42 ?_
            refine lv_iadd hx hb px_d60_43 ?_
            obtain ⟨hi44, hw⟩ := hw
            refine va_iald hx hb hK hP 1 0 rfl rfl hi44 px_d60_44 ?_
            refine lv_topi (fun z13 ez13 => ?_)
            have hw := hw z13 ez13
            obtain ⟨hi45, hw⟩ := hw
            refine va_iast hx hb hK hP hD hS 4 3 rfl rfl hi45 px_d60_45 (fun H locs hP hD hS => ?_)
            have hP : va_P (dC, dI) vwCl [(h0, .inr (8, px_mf rf iv)), (rf 9, .inl (c_small, 156, .inl g_small)), (rf 14, .inl (c_freeRows, 12, .inl g_freeRows)), (rf 15, .inl (c_freeColumns, 12, .inl g_freeColumns)), (rf 17, .inl (c_smallMinor, 36, .inl (upd g_smallMinor (Int32.toNatClampNeg ((6 * x2) + x3)) z13)))] H := hP
            have hD : va_D A [(h0, .inr (8, px_mf rf iv)), (rf 9, .inl (c_small, 156, .inl g_small)), (rf 14, .inl (c_freeRows, 12, .inl g_freeRows)), (rf 15, .inl (c_freeColumns, 12, .inl g_freeColumns)), (rf 17, .inl (c_smallMinor, 36, .inl (upd g_smallMinor (Int32.toNatClampNeg ((6 * x2) + x3)) z13)))] := hD
            obtain ⟨z14, ez14⟩ : ∃ y : Int32, y = x3 + 1 := ⟨_, rfl⟩
            have hw := hw z14 ez14
            refine lv_iinc (v := z14) (lv' := [(3, .int z14), (0, .ref h0), (1, .int x1), (2, .int x2)]) hx hb px_d60_46 hl (k := 3) rfl (by rw [ez14]; rfl) (by decide) rfl (fun ls hl => ?_)
            refine lv_goto (tgt := 9) hx hb px_d60_49 (by decide) ?_
            exact ih9 x1 x2 z14 iv g_small g_freeRows g_freeColumns (upd g_smallMinor (Int32.toNatClampNeg ((6 * x2) + x3)) z13) H locs ls hP hD hS (lv_sub hl [1, 2, 3, 0] rfl) hw
      intro x1 x2 iv g_small g_freeRows g_freeColumns g_smallMinor H locs ls hP hD hS hl hw
      unfold w60_L2 at hw
      refine lv_iload_n hx hb px_d60_2 rfl (lv_at hl 2 rfl) ?_
      refine lv_iload_n hx hb px_d60_3 rfl (lv_at hl 1 rfl) ?_
      refine lv_icmp_ge (tgt := 58) hx hb px_d60_4 (by decide) (fun c4 => ?_) (fun c4 => ?_)
      · have hw := hw.1 c4
        refine lv_iconst (v := 0) hx hb px_d60_58 (by decide) ?_
        refine lv_istore_n (lv' := [(2, .int 0), (0, .ref h0), (1, .int x1)]) hx hb px_d60_59 rfl hl (by decide) rfl (fun ls hl => ?_)
        obtain ⟨k9, hw⟩ := hw
        exact S60 k9 x1 0 iv g_small g_freeRows g_freeColumns g_smallMinor H locs ls hP hD hS (lv_sub hl [1, 2, 0] rfl) hw
      · have hw := hw.2 c4
        refine lv_iconst (v := 0) hx hb px_d60_7 (by decide) ?_
        refine lv_istore_n (lv' := [(3, .int 0), (0, .ref h0), (1, .int x1), (2, .int x2)]) hx hb px_d60_8 rfl hl (by decide) rfl (fun ls hl => ?_)
        obtain ⟨k9, hw⟩ := hw
        exact S9 k9 x1 x2 0 iv g_small g_freeRows g_freeColumns g_smallMinor H locs ls hP hD hS (lv_sub hl [1, 2, 3, 0] rfl) hw
  unfold w60_wp at hw
  have hS0 := hS
  obtain ⟨H, hH9⟩ : ∃ z, z = s.heap := ⟨_, rfl⟩
  have hP : va_P (dC, dI) vwCl [(h0, .inr (8, px_mf rf iv)), (rf 9, .inl (c_small, 156, .inl g_small)), (rf 14, .inl (c_freeRows, 12, .inl g_freeRows)), (rf 15, .inl (c_freeColumns, 12, .inl g_freeColumns)), (rf 17, .inl (c_smallMinor, 36, .inl g_smallMinor))] H := by rw [hH9]; exact hP
  obtain ⟨locs, hlo9⟩ : ∃ z : List Loc, z = [] := ⟨_, rfl⟩
  have hS : va_S A s.heap H locs := by rw [hH9, hlo9]; exact hS
  suffices hG : W p l e (headSpec px_s60 ({ frames := 1, cells := 0, slots := 0, locals := 22 })).room s m ([.ref h0, .int a1x]).toArray below meth c H locs 0 0 Q (F0 m 0 ls []) by rw [hH9, hlo9] at hG; exact hG
  refine lv_iconst (v := 0) hx hb px_d60_0 (by decide) ?_
  refine lv_istore_n (lv' := [(2, .int 0), (0, .ref h0), (1, .int a1x)]) hx hb px_d60_1 rfl hl (by decide) rfl (fun ls hl => ?_)
  obtain ⟨k9, hw⟩ := hw
  exact S2 k9 a1x 0 iv g_small g_freeRows g_freeColumns g_smallMinor H locs ls hP hD hS (lv_sub hl [1, 2, 0] rfl) hw

/-! MatroidDeskModel.r(II)I -/
def w70_wp (post : Int32 → (Nat → Int32) → (Nat → Int32) → Prop) (a1x : Int32) (a2x : Int32) (iv : Nat → Int32) (g_rankOf : Nat → Int32) : Prop := vp_in ((4096 * a1x) + a2x) 106496 ∧ (post (g_rankOf (Int32.toNatClampNeg ((4096 * a1x) + a2x))) iv g_rankOf)
set_option maxHeartbeats 8000000 in
set_option maxRecDepth 100000 in
theorem w70_met (l : Launch) (dC : Nat → ClassId) (dI : Nat → Nat → Nat) (sz : Nat) (h0 : Nat) (rf : Nat → Nat) (c_rankOf : ClassId) (a1x : Int32) (a2x : Int32) (iv : Nat → Int32) (g_rankOf : Nat → Int32) (post : Int32 → (Nat → Int32) → (Nat → Int32) → Prop) (hw : w70_wp post a1x a2x iv g_rankOf) : Met l px_y70 px_s70 ({ frames := 0, cells := 0, slots := 0, locals := 0 }) (va_Pc [.ref h0, .int a1x, .int a2x] (fun U => U.heap.size = sz ∧ va_P (dC, dI) vwCl [(h0, .inr (8, px_mf rf iv)), (rf 25, .inl (c_rankOf, 106496, .inl g_rankOf))] U.heap ∧ va_K (dC, dI) vwCl [(c_rankOf, .byte)] U ∧ va_D (fun _ => True) [(h0, .inr (8, px_mf rf iv)), (rf 25, .inl (c_rankOf, 106496, .inl g_rankOf))] ∧ px_N U)) (va_Qi (fun (r : Int32) (u : (Nat → Int32) × (Nat → Int32)) => post r u.1 u.2) (fun (u : (Nat → Int32) × (Nat → Int32)) (t : State) => va_P (dC, dI) vwCl [(h0, .inr (8, px_mf rf u.1)), (rf 25, .inl (c_rankOf, 106496, .inl u.2))] t.heap ∧ va_K (dC, dI) vwCl [(c_rankOf, .byte)] t ∧ va_D (va_A [(h0, .inr (8, px_mf rf iv)), (rf 25, .inl (c_rankOf, 106496, .inl g_rankOf))] sz) [(h0, .inr (8, px_mf rf u.1)), (rf 25, .inl (c_rankOf, 106496, .inl u.2))]) (va_A [(h0, .inr (8, px_mf rf iv)), (rf 25, .inl (c_rankOf, 106496, .inl g_rankOf))] sz)) 0 0 (va_A [(h0, .inr (8, px_mf rf iv)), (rf 25, .inl (c_rankOf, 106496, .inl g_rankOf))] sz) := by
  refine Met.ofW (cc := prog_15_method_25_code) (maxL := 3) (ret := (some .int)) (by decide) rfl ?_
  intro p e s m args below meth c s₁ B hml hv
  obtain ⟨rfl, hsz, hP, hK, hD0, hN⟩ := hv
  have hx := B.exec
  have hb := B.bytes
  have hr := B.returns
  have htw : ∀ w ∈ px_all, w.before _ s = true := fun w h => atoms_spec (ws := px_s70) B.pre w (List.mem_cons_of_mem _ h)
  have hown : s.vm.findClass "MatroidDeskModel" = some m.cls := findClass_of_methodNamed B.named
  have hlocks := B.notSynchronized
  subst hsz
  have hD := hD0.self (sz := s.heap.size)
  generalize hAe : va_A [(h0, .inr (8, px_mf rf iv)), (rf 25, .inl (c_rankOf, 106496, .inl g_rankOf))] s.heap.size = A at hD ⊢
  have hA : ∀ q : Nat, s.heap.size ≤ q → A q := fun q h => by rw [← hAe]; exact Or.inr h
  have hS : va_S A s.heap s.heap [] := va_S.rf
  have hP : va_P (dC, dI) vwCl [(h0, .inr (8, px_mf rf iv)), (rf 25, .inl (c_rankOf, 106496, .inl g_rankOf))] s.heap := hP
  have hl := lv_entry ([.ref h0, .int a1x, .int a2x]) (n := 3) (Nat.le_of_ble_eq_true rfl)
  rw [lg_entry_eq]
  generalize (lg_sl ([.ref h0, .int a1x, .int a2x]) ++ List.replicate (3 - (lg_sl ([.ref h0, .int a1x, .int a2x])).length) Slot.unset).toArray = ls at hl ⊢
  have hl : lv_has ls 3 [(0, .ref h0), (1, .int a1x), (2, .int a2x)] := hl
  generalize hQ : MQ _ _ _ _ _ _ _ = Q
  unfold w70_wp at hw
  have hS0 := hS
  obtain ⟨H, hH9⟩ : ∃ z, z = s.heap := ⟨_, rfl⟩
  have hP : va_P (dC, dI) vwCl [(h0, .inr (8, px_mf rf iv)), (rf 25, .inl (c_rankOf, 106496, .inl g_rankOf))] H := by rw [hH9]; exact hP
  obtain ⟨locs, hlo9⟩ : ∃ z : List Loc, z = [] := ⟨_, rfl⟩
  have hS : va_S A s.heap H locs := by rw [hH9, hlo9]; exact hS
  suffices hG : W p l e (headSpec px_s70 ({ frames := 0, cells := 0, slots := 0, locals := 0 })).room s m ([.ref h0, .int a1x, .int a2x]).toArray below meth c H locs 0 0 Q (F0 m 0 ls []) by rw [hH9, hlo9] at hG; exact hG
  refine lv_aload_n hx hb px_d70_0 rfl (lv_at hl 0 rfl) ?_
  refine va_get (D := (dC, dI)) (ci := 8) (v := .ref (rf 25)) (C := "MatroidDeskModel") (T := px_T8) (N := 53) hx hb htw px_in8 hown hK hP 0 rfl rfl 25 (by decide) (htw _ px_w510) (fun _ h9 => h9) rfl px_d70_1 ?_
  refine lv_sipush (v := 4096) hx hb px_d70_4 (by decide) ?_
  refine lv_iload_n hx hb px_d70_7 rfl (lv_at hl 1 rfl) ?_
  refine lv_imul hx hb px_d70_8 ?_
  refine lv_iload_n hx hb px_d70_9 rfl (lv_at hl 2 rfl) ?_
  refine lv_iadd hx hb px_d70_10 ?_
  obtain ⟨hi11, hw⟩ := hw
  refine va_bald hx hb hK hP 1 0 rfl rfl hi11 px_d70_11 ?_
  rw [← hQ]
  exact W.iret (v := g_rankOf (Int32.toNatClampNeg ((4096 * a1x) + a2x))) hx hb hr (fun t ht hW => ⟨⟨g_rankOf (Int32.toNatClampNeg ((4096 * a1x) + a2x)), (iv, g_rankOf), rfl, hw, by rw [ht]; exact hP, va_K.moved hW.alike hK, hD⟩, hS.F ht⟩) hS.2.2 px_d70_12

/-! MatroidDeskModel.whole(I)I -/
def w71_wp (post : Int32 → (Nat → Int32) → (Nat → Int32) → Prop) (a1x : Int32) (iv : Nat → Int32) (g_elements : Nat → Int32) : Prop := vp_in a1x 26 ∧ (post ((1 <<< ((g_elements (Int32.toNatClampNeg a1x)) &&& 31)) - 1) iv g_elements)
set_option maxHeartbeats 8000000 in
set_option maxRecDepth 100000 in
theorem w71_met (l : Launch) (dC : Nat → ClassId) (dI : Nat → Nat → Nat) (sz : Nat) (h0 : Nat) (rf : Nat → Nat) (c_elements : ClassId) (a1x : Int32) (iv : Nat → Int32) (g_elements : Nat → Int32) (post : Int32 → (Nat → Int32) → (Nat → Int32) → Prop) (hw : w71_wp post a1x iv g_elements) : Met l px_y71 px_s71 ({ frames := 0, cells := 0, slots := 0, locals := 0 }) (va_Pc [.ref h0, .int a1x] (fun U => U.heap.size = sz ∧ va_P (dC, dI) vwCl [(h0, .inr (8, px_mf rf iv)), (rf 19, .inl (c_elements, 26, .inl g_elements))] U.heap ∧ va_K (dC, dI) vwCl [(c_elements, .int)] U ∧ va_D (fun _ => True) [(h0, .inr (8, px_mf rf iv)), (rf 19, .inl (c_elements, 26, .inl g_elements))] ∧ px_N U)) (va_Qi (fun (r : Int32) (u : (Nat → Int32) × (Nat → Int32)) => post r u.1 u.2) (fun (u : (Nat → Int32) × (Nat → Int32)) (t : State) => va_P (dC, dI) vwCl [(h0, .inr (8, px_mf rf u.1)), (rf 19, .inl (c_elements, 26, .inl u.2))] t.heap ∧ va_K (dC, dI) vwCl [(c_elements, .int)] t ∧ va_D (va_A [(h0, .inr (8, px_mf rf iv)), (rf 19, .inl (c_elements, 26, .inl g_elements))] sz) [(h0, .inr (8, px_mf rf u.1)), (rf 19, .inl (c_elements, 26, .inl u.2))]) (va_A [(h0, .inr (8, px_mf rf iv)), (rf 19, .inl (c_elements, 26, .inl g_elements))] sz)) 0 0 (va_A [(h0, .inr (8, px_mf rf iv)), (rf 19, .inl (c_elements, 26, .inl g_elements))] sz) := by
  refine Met.ofW (cc := prog_15_method_26_code) (maxL := 2) (ret := (some .int)) (by decide) rfl ?_
  intro p e s m args below meth c s₁ B hml hv
  obtain ⟨rfl, hsz, hP, hK, hD0, hN⟩ := hv
  have hx := B.exec
  have hb := B.bytes
  have hr := B.returns
  have htw : ∀ w ∈ px_all, w.before _ s = true := fun w h => atoms_spec (ws := px_s71) B.pre w (List.mem_cons_of_mem _ h)
  have hown : s.vm.findClass "MatroidDeskModel" = some m.cls := findClass_of_methodNamed B.named
  have hlocks := B.notSynchronized
  subst hsz
  have hD := hD0.self (sz := s.heap.size)
  generalize hAe : va_A [(h0, .inr (8, px_mf rf iv)), (rf 19, .inl (c_elements, 26, .inl g_elements))] s.heap.size = A at hD ⊢
  have hA : ∀ q : Nat, s.heap.size ≤ q → A q := fun q h => by rw [← hAe]; exact Or.inr h
  have hS : va_S A s.heap s.heap [] := va_S.rf
  have hP : va_P (dC, dI) vwCl [(h0, .inr (8, px_mf rf iv)), (rf 19, .inl (c_elements, 26, .inl g_elements))] s.heap := hP
  have hl := lv_entry ([.ref h0, .int a1x]) (n := 2) (Nat.le_of_ble_eq_true rfl)
  rw [lg_entry_eq]
  generalize (lg_sl ([.ref h0, .int a1x]) ++ List.replicate (2 - (lg_sl ([.ref h0, .int a1x])).length) Slot.unset).toArray = ls at hl ⊢
  have hl : lv_has ls 2 [(0, .ref h0), (1, .int a1x)] := hl
  generalize hQ : MQ _ _ _ _ _ _ _ = Q
  unfold w71_wp at hw
  have hS0 := hS
  obtain ⟨H, hH9⟩ : ∃ z, z = s.heap := ⟨_, rfl⟩
  have hP : va_P (dC, dI) vwCl [(h0, .inr (8, px_mf rf iv)), (rf 19, .inl (c_elements, 26, .inl g_elements))] H := by rw [hH9]; exact hP
  obtain ⟨locs, hlo9⟩ : ∃ z : List Loc, z = [] := ⟨_, rfl⟩
  have hS : va_S A s.heap H locs := by rw [hH9, hlo9]; exact hS
  suffices hG : W p l e (headSpec px_s71 ({ frames := 0, cells := 0, slots := 0, locals := 0 })).room s m ([.ref h0, .int a1x]).toArray below meth c H locs 0 0 Q (F0 m 0 ls []) by rw [hH9, hlo9] at hG; exact hG
  refine lv_iconst (v := 1) hx hb px_d71_0 (by decide) ?_
  refine lv_aload_n hx hb px_d71_1 rfl (lv_at hl 0 rfl) ?_
  refine va_get (D := (dC, dI)) (ci := 8) (v := .ref (rf 19)) (C := "MatroidDeskModel") (T := px_T8) (N := 53) hx hb htw px_in8 hown hK hP 0 rfl rfl 19 (by decide) (htw _ px_w502) (fun _ h9 => h9) rfl px_d71_2 ?_
  refine lv_iload_n hx hb px_d71_5 rfl (lv_at hl 1 rfl) ?_
  obtain ⟨hi6, hw⟩ := hw
  refine va_iald hx hb hK hP 1 0 rfl rfl hi6 px_d71_6 ?_
  refine lv_ishl hx hb px_d71_7 ?_
  refine lv_iconst (v := 1) hx hb px_d71_8 (by decide) ?_
  refine lv_isub hx hb px_d71_9 ?_
  rw [← hQ]
  exact W.iret (v := (1 <<< ((g_elements (Int32.toNatClampNeg a1x)) &&& 31)) - 1) hx hb hr (fun t ht hW => ⟨⟨(1 <<< ((g_elements (Int32.toNatClampNeg a1x)) &&& 31)) - 1, (iv, g_elements), rfl, hw, by rw [ht]; exact hP, va_K.moved hW.alike hK, hD⟩, hS.F ht⟩) hS.2.2 px_d71_10

/-! MatroidDeskModel.isFree(II)Z -/
def w72_L20 (post : Int32 → (Nat → Int32) → (Nat → Int32) → (Nat → Int32) → Prop) (x1 : Int32) (x2 : Int32) (y0 : Int32) (iv : Nat → Int32) (g_rankOf : Nat → Int32) (g_sizes : Nat → Int32) : Prop := narrow .boolean (.int y0) = .int y0 ∧ post y0 iv g_rankOf g_sizes
def w72_wp (post : Int32 → (Nat → Int32) → (Nat → Int32) → (Nat → Int32) → Prop) (a1x : Int32) (a2x : Int32) (iv : Nat → Int32) (g_rankOf : Nat → Int32) (g_sizes : Nat → Int32) : Prop := w70_wp (fun r3 v1 v2 => vp_in a2x 4096 ∧ ((¬ r3 = (g_sizes (Int32.toNatClampNeg a2x)) → w72_L20 post a1x a2x 0 v1 v2 g_sizes) ∧ (r3 = (g_sizes (Int32.toNatClampNeg a2x)) → w72_L20 post a1x a2x 1 v1 v2 g_sizes))) a1x a2x iv g_rankOf
set_option maxHeartbeats 8000000 in
set_option maxRecDepth 100000 in
theorem w72_met (l : Launch) (dC : Nat → ClassId) (dI : Nat → Nat → Nat) (sz : Nat) (h0 : Nat) (rf : Nat → Nat) (c_rankOf : ClassId) (c_sizes : ClassId) (a1x : Int32) (a2x : Int32) (iv : Nat → Int32) (g_rankOf : Nat → Int32) (g_sizes : Nat → Int32) (post : Int32 → (Nat → Int32) → (Nat → Int32) → (Nat → Int32) → Prop) (hw : w72_wp post a1x a2x iv g_rankOf g_sizes) : Met l px_y72 px_s72 ({ frames := 1, cells := 0, slots := 0, locals := 22 }) (va_Pc [.ref h0, .int a1x, .int a2x] (fun U => U.heap.size = sz ∧ va_P (dC, dI) vwCl [(h0, .inr (8, px_mf rf iv)), (rf 25, .inl (c_rankOf, 106496, .inl g_rankOf)), (rf 28, .inl (c_sizes, 4096, .inl g_sizes))] U.heap ∧ va_K (dC, dI) vwCl [(c_rankOf, .byte), (c_sizes, .int)] U ∧ va_D (fun _ => True) [(h0, .inr (8, px_mf rf iv)), (rf 25, .inl (c_rankOf, 106496, .inl g_rankOf)), (rf 28, .inl (c_sizes, 4096, .inl g_sizes))] ∧ px_N U)) (va_Qi (fun (r : Int32) (u : (Nat → Int32) × (Nat → Int32) × (Nat → Int32)) => post r u.1 u.2.1 u.2.2) (fun (u : (Nat → Int32) × (Nat → Int32) × (Nat → Int32)) (t : State) => va_P (dC, dI) vwCl [(h0, .inr (8, px_mf rf u.1)), (rf 25, .inl (c_rankOf, 106496, .inl u.2.1)), (rf 28, .inl (c_sizes, 4096, .inl u.2.2))] t.heap ∧ va_K (dC, dI) vwCl [(c_rankOf, .byte), (c_sizes, .int)] t ∧ va_D (va_A [(h0, .inr (8, px_mf rf iv)), (rf 25, .inl (c_rankOf, 106496, .inl g_rankOf)), (rf 28, .inl (c_sizes, 4096, .inl g_sizes))] sz) [(h0, .inr (8, px_mf rf u.1)), (rf 25, .inl (c_rankOf, 106496, .inl u.2.1)), (rf 28, .inl (c_sizes, 4096, .inl u.2.2))]) (va_A [(h0, .inr (8, px_mf rf iv)), (rf 25, .inl (c_rankOf, 106496, .inl g_rankOf)), (rf 28, .inl (c_sizes, 4096, .inl g_sizes))] sz)) 0 0 (va_A [(h0, .inr (8, px_mf rf iv)), (rf 25, .inl (c_rankOf, 106496, .inl g_rankOf)), (rf 28, .inl (c_sizes, 4096, .inl g_sizes))] sz) := by
  refine Met.ofW (cc := prog_15_method_27_code) (maxL := 3) (ret := (some .boolean)) (by decide) rfl ?_
  intro p e s m args below meth c s₁ B hml hv
  obtain ⟨rfl, hsz, hP, hK, hD0, hN⟩ := hv
  have hx := B.exec
  have hb := B.bytes
  have hr := B.returns
  have htw : ∀ w ∈ px_all, w.before _ s = true := fun w h => atoms_spec (ws := px_s72) B.pre w (List.mem_cons_of_mem _ h)
  have hown : s.vm.findClass "MatroidDeskModel" = some m.cls := findClass_of_methodNamed B.named
  have hlocks := B.notSynchronized
  subst hsz
  have hD := hD0.self (sz := s.heap.size)
  generalize hAe : va_A [(h0, .inr (8, px_mf rf iv)), (rf 25, .inl (c_rankOf, 106496, .inl g_rankOf)), (rf 28, .inl (c_sizes, 4096, .inl g_sizes))] s.heap.size = A at hD ⊢
  have hA : ∀ q : Nat, s.heap.size ≤ q → A q := fun q h => by rw [← hAe]; exact Or.inr h
  have hS : va_S A s.heap s.heap [] := va_S.rf
  have hP : va_P (dC, dI) vwCl [(h0, .inr (8, px_mf rf iv)), (rf 25, .inl (c_rankOf, 106496, .inl g_rankOf)), (rf 28, .inl (c_sizes, 4096, .inl g_sizes))] s.heap := hP
  have hl := lv_entry ([.ref h0, .int a1x, .int a2x]) (n := 3) (Nat.le_of_ble_eq_true rfl)
  rw [lg_entry_eq]
  generalize (lg_sl ([.ref h0, .int a1x, .int a2x]) ++ List.replicate (3 - (lg_sl ([.ref h0, .int a1x, .int a2x])).length) Slot.unset).toArray = ls at hl ⊢
  have hl : lv_has ls 3 [(0, .ref h0), (1, .int a1x), (2, .int a2x)] := hl
  generalize hQ : MQ _ _ _ _ _ _ _ = Q
  have S20 : ∀ (x1 : Int32) (x2 : Int32) (y0 : Int32) (iv : Nat → Int32) (g_rankOf : Nat → Int32) (g_sizes : Nat → Int32) (H : Heap) (locs : List Loc) (ls : Array Slot), va_P (dC, dI) vwCl [(h0, .inr (8, px_mf rf iv)), (rf 25, .inl (c_rankOf, 106496, .inl g_rankOf)), (rf 28, .inl (c_sizes, 4096, .inl g_sizes))] H → va_D A [(h0, .inr (8, px_mf rf iv)), (rf 25, .inl (c_rankOf, 106496, .inl g_rankOf)), (rf 28, .inl (c_sizes, 4096, .inl g_sizes))] → va_S A s.heap H locs → lv_has ls 3 [(0, .ref h0), (1, .int x1), (2, .int x2)] → w72_L20 post x1 x2 y0 iv g_rankOf g_sizes → W p l e (headSpec px_s72 ({ frames := 1, cells := 0, slots := 0, locals := 22 })).room s m ([.ref h0, .int a1x, .int a2x]).toArray below meth c H locs 0 0 Q (F0 m 20 ls [.int y0]) := by
    intro x1 x2 y0 iv g_rankOf g_sizes H locs ls hP hD hS hl hw
    unfold w72_L20 at hw
    obtain ⟨hz9, hw⟩ := hw
    rw [← hQ]
    exact W.zret (v := y0) hx hb hr hz9 (fun t ht hW => ⟨⟨y0, (iv, g_rankOf, g_sizes), rfl, hw, by rw [ht]; exact hP, va_K.moved hW.alike hK, hD⟩, hS.F ht⟩) hS.2.2 px_d72_20
  unfold w72_wp at hw
  have hS0 := hS
  obtain ⟨H, hH9⟩ : ∃ z, z = s.heap := ⟨_, rfl⟩
  have hP : va_P (dC, dI) vwCl [(h0, .inr (8, px_mf rf iv)), (rf 25, .inl (c_rankOf, 106496, .inl g_rankOf)), (rf 28, .inl (c_sizes, 4096, .inl g_sizes))] H := by rw [hH9]; exact hP
  obtain ⟨locs, hlo9⟩ : ∃ z : List Loc, z = [] := ⟨_, rfl⟩
  have hS : va_S A s.heap H locs := by rw [hH9, hlo9]; exact hS
  suffices hG : W p l e (headSpec px_s72 ({ frames := 1, cells := 0, slots := 0, locals := 22 })).room s m ([.ref h0, .int a1x, .int a2x]).toArray below meth c H locs 0 0 Q (F0 m 0 ls []) by rw [hH9, hlo9] at hG; exact hG
  refine lv_aload_n hx hb px_d72_0 rfl (lv_at hl 0 rfl) ?_
  refine lv_iload_n hx hb px_d72_1 rfl (lv_at hl 1 rfl) ?_
  refine lv_iload_n hx hb px_d72_2 rfl (lv_at hl 2 rfl) ?_
  have hPc := hP.sub (ws' := [(h0, .inr (8, px_mf rf iv)), (rf 25, .inl (c_rankOf, 106496, .inl g_rankOf))]) [0, 1] rfl
  have hDc := hD.sub (ws' := [(h0, .inr (8, px_mf rf iv)), (rf 25, .inl (c_rankOf, 106496, .inl g_rankOf))]) [0, 1] (by decide) rfl
  have hKc := hK.sub (tys' := [(c_rankOf, .byte)]) [0] rfl
  have hFc := va_free (wc := [(h0, .inr (8, px_mf rf iv)), (rf 25, .inl (c_rankOf, 106496, .inl g_rankOf))]) hD hS hA [0, 1] rfl
  refine va_calli (va_runV (As := [.int a1x, .int a2x]) (rest := []) ⟨hx, hb, hml, hown, htw⟩ (w70_met l dC dI H.size h0 rf c_rankOf a1x a2x iv g_rankOf _ hw) (cwV 2 htw (px_gv px_w561 px_w553 px_w554 px_w94 px_g70) rfl rfl rfl (by decide +kernel) ⟨Nat.le_of_ble_eq_true rfl, Nat.le_of_ble_eq_true rfl⟩) ⟨fun a U g mk q => by obtain ⟨q0, q1, qP, qK, qD, qN⟩ := q; exact ⟨q0, q1, qP, va_K.moved (u := U) (U := U.calling g mk a) (Vm.Alike.refl U.vm) qK, qD, qN.same rfl⟩, va_recv hK hP (ci := 8) (q0 := 0) rfl rfl, fun U hU hW => ⟨rfl, by rw [hU], by rw [hU]; exact hPc, va_K.moved hW.alike hKc, hDc.weaken (fun _ _ _ _ => trivial), hN.warm hW⟩⟩ rfl rfl hl.1 rfl (lv_room (Nat.le_of_ble_eq_true rfl)) px_d72_3 ⟨(Nat.le_of_ble_eq_true rfl), (Nat.le_of_ble_eq_true rfl)⟩) hS (fun q _ h => hFc q h) hFc (fun r3 u t H1 locs ht hvm hw hB hz1 hk1 hS => ?_)
  obtain ⟨v1, v2⟩ := u
  obtain ⟨hP1, hK1, hD1⟩ := hB
  rw [ht] at hP1
  have hK1 := va_K.moved hvm.symm hK1
  obtain ⟨hP, hD⟩ := va_join (wr := [(rf 28, .inl (c_sizes, 4096, .inl g_sizes))]) (w1 := [(h0, .inr (8, px_mf rf v1)), (rf 25, .inl (c_rankOf, 106496, .inl v2))]) hP hD [0, 1] [2] rfl rfl (by decide) (by decide) hk1 hFc hP1 hD1
  generalize H1 = H at hP hS ⊢
  have hP : va_P (dC, dI) vwCl [(rf 28, .inl (c_sizes, 4096, .inl g_sizes)), (h0, .inr (8, px_mf rf v1)), (rf 25, .inl (c_rankOf, 106496, .inl v2))] H := hP
  have hD : va_D A [(rf 28, .inl (c_sizes, 4096, .inl g_sizes)), (h0, .inr (8, px_mf rf v1)), (rf 25, .inl (c_rankOf, 106496, .inl v2))] := hD
  have hP := hP.sub (ws' := [(h0, .inr (8, px_mf rf v1)), (rf 25, .inl (c_rankOf, 106496, .inl v2)), (rf 28, .inl (c_sizes, 4096, .inl g_sizes))]) [1, 2, 0] rfl
  have hD := hD.sub (ws' := [(h0, .inr (8, px_mf rf v1)), (rf 25, .inl (c_rankOf, 106496, .inl v2)), (rf 28, .inl (c_sizes, 4096, .inl g_sizes))]) [1, 2, 0] (by decide) rfl
  refine lv_aload_n hx hb px_d72_6 rfl (lv_at hl 0 rfl) ?_
  refine va_get (D := (dC, dI)) (ci := 8) (v := .ref (rf 28)) (C := "MatroidDeskModel") (T := px_T8) (N := 53) hx hb htw px_in8 hown hK hP 0 rfl rfl 28 (by decide) (htw _ px_w513) (fun _ h9 => h9) rfl px_d72_7 ?_
  refine lv_iload_n hx hb px_d72_10 rfl (lv_at hl 2 rfl) ?_
  obtain ⟨hi11, hw⟩ := hw
  refine va_iald hx hb hK hP 2 1 rfl rfl hi11 px_d72_11 ?_
  refine lv_icmp_ne (tgt := 19) hx hb px_d72_12 (by decide) (fun c12 => ?_) (fun c12 => ?_)
  · have hw := hw.1 c12
    refine lv_iconst (v := 0) hx hb px_d72_19 (by decide) ?_
    exact S20 a1x a2x 0 v1 v2 g_sizes H locs ls hP hD hS (lv_sub hl [0, 1, 2] rfl) hw
  · have hw := hw.2 c12
    refine lv_iconst (v := 1) hx hb px_d72_15 (by decide) ?_
    refine lv_goto (tgt := 20) hx hb px_d72_16 (by decide) ?_
    exact S20 a1x a2x 1 v1 v2 g_sizes H locs ls hP hD hS (lv_sub hl [0, 1, 2] rfl) hw

