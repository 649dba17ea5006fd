def nz_wp (post : Int32 → Int32 → (Nat → Int32) → Prop) (n0 : Int32) (m0 : Int32) (f0 : Nat → Int32) : Prop := post 0 0 f0
set_option maxHeartbeats 8000000 in
set_option maxRecDepth 100000 in
theorem nz_met (l : Launch) (dC : Nat → ClassId) (dI : Nat → Nat → Nat) (sz : Nat) (h0 : Nat) (q0 : Nat) (c0 : ClassId) (n0 : Int32) (m0 : Int32) (f0 : Nat → Int32) (post : Int32 → Int32 → (Nat → Int32) → Prop) (hw : nz_wp post n0 m0 f0) : Met l px_y9 px_s9 ({ frames := 0, cells := 0, slots := 0, locals := 0 }) (va_Pc [.ref h0] (fun U => U.heap.size = sz ∧ va_P (dC, dI) vwCl [(h0, .inr (9, [.ref q0, .int n0, .int m0])), (q0, .inl (c0, 160, .inl f0))] U.heap ∧ va_K (dC, dI) vwCl [(c0, .int)] U ∧ va_D (fun _ => True) [(h0, .inr (9, [.ref q0, .int n0, .int m0])), (q0, .inl (c0, 160, .inl f0))] ∧ px_N U)) (va_Qv (fun (u : Int32 × Int32 × (Nat → Int32)) => post u.1 u.2.1 u.2.2) (fun (u : Int32 × Int32 × (Nat → Int32)) (t : State) => va_P (dC, dI) vwCl [(h0, .inr (9, [.ref q0, .int u.1, .int u.2.1])), (q0, .inl (c0, 160, .inl u.2.2))] t.heap ∧ va_K (dC, dI) vwCl [(c0, .int)] t ∧ va_D (va_A [(h0, .inr (9, [.ref q0, .int n0, .int m0])), (q0, .inl (c0, 160, .inl f0))] sz) [(h0, .inr (9, [.ref q0, .int u.1, .int u.2.1])), (q0, .inl (c0, 160, .inl u.2.2))]) (va_A [(h0, .inr (9, [.ref q0, .int n0, .int m0])), (q0, .inl (c0, 160, .inl f0))] sz)) 0 0 (va_A [(h0, .inr (9, [.ref q0, .int n0, .int m0])), (q0, .inl (c0, 160, .inl f0))] sz) := by
  refine Met.ofW (cc := prog_16_method_2_code) (maxL := 1) (ret := none) (by decide) rfl ?_
  intro p e s m args below meth c s₁ B hml hv
  obtain ⟨rfl, hsz, hP, hK, hD0, hN⟩ := hv
  have hx := B.exec
  have hb := B.bytes
  have hr := B.returns
  have htw : ∀ w ∈ px_all, w.before _ s = true := fun w h => atoms_spec (ws := px_s9) B.pre w (List.mem_cons_of_mem _ h)
  have hown : s.vm.findClass "MatroidDeskModel$Num" = some m.cls := findClass_of_methodNamed B.named
  have hlocks := B.notSynchronized
  subst hsz
  have hD := hD0.self (sz := s.heap.size)
  generalize hAe : va_A [(h0, .inr (9, [.ref q0, .int n0, .int m0])), (q0, .inl (c0, 160, .inl f0))] s.heap.size = A at hD ⊢
  have hA : ∀ q : Nat, s.heap.size ≤ q → A q := fun q h => by rw [← hAe]; exact Or.inr h
  have hS : va_S A s.heap s.heap [] := va_S.rf
  have hP : va_P (dC, dI) vwCl [(h0, .inr (9, [.ref q0, .int n0, .int m0])), (q0, .inl (c0, 160, .inl f0))] s.heap := hP
  have hl := lv_entry ([.ref h0]) (n := 1) (Nat.le_of_ble_eq_true rfl)
  rw [lg_entry_eq]
  generalize (lg_sl ([.ref h0]) ++ List.replicate (1 - (lg_sl ([.ref h0])).length) Slot.unset).toArray = ls at hl ⊢
  have hl : lv_has ls 1 [(0, .ref h0)] := hl
  generalize hQ : MQ _ _ _ _ _ _ _ = Q
  unfold nz_wp at hw
  have hS0 := hS
  obtain ⟨H, hH9⟩ : ∃ z, z = s.heap := ⟨_, rfl⟩
  have hP : va_P (dC, dI) vwCl [(h0, .inr (9, [.ref q0, .int n0, .int m0])), (q0, .inl (c0, 160, .inl f0))] H := by rw [hH9]; exact hP
  obtain ⟨locs, hlo9⟩ : ∃ z : List Loc, z = [] := ⟨_, rfl⟩
  have hS : va_S A s.heap H locs := by rw [hH9, hlo9]; exact hS
  suffices hG : W p l e (headSpec px_s9 ({ frames := 0, cells := 0, slots := 0, locals := 0 })).room s m ([.ref h0]).toArray below meth c H locs 0 0 Q (F0 m 0 ls []) by rw [hH9, hlo9] at hG; exact hG
  refine lv_aload_n hx hb px_d9_0 rfl (lv_at hl 0 rfl) ?_
  refine lv_iconst (v := 0) hx hb px_d9_1 (by decide) ?_
  refine va_put (D := (dC, dI)) (ci := 9) (v := .int 0) (ty := .int) (C := "MatroidDeskModel$Num") (T := px_T9) (N := 3) hx hb htw px_in9 px_ty9 px_tyok9 px_nm9 hown hK hP hD hS 0 rfl rfl 1 (by decide) (htw _ px_w271) (fun _ h9 => h9) rfl (by decide +kernel) rfl rfl (Nat.le_of_ble_eq_true rfl) px_d9_2 (fun H locs hP hD hS => ?_)
  have hP : va_P (dC, dI) vwCl [(h0, .inr (9, [.ref q0, .int 0, .int m0])), (q0, .inl (c0, 160, .inl f0))] H := hP
  have hD : va_D A [(h0, .inr (9, [.ref q0, .int 0, .int m0])), (q0, .inl (c0, 160, .inl f0))] := hD
  refine lv_aload_n hx hb px_d9_5 rfl (lv_at hl 0 rfl) ?_
  refine lv_iconst (v := 0) hx hb px_d9_6 (by decide) ?_
  refine va_put (D := (dC, dI)) (ci := 9) (v := .int 0) (ty := .boolean) (C := "MatroidDeskModel$Num") (T := px_T9) (N := 3) hx hb htw px_in9 px_ty9 px_tyok9 px_nm9 hown hK hP hD hS 0 rfl rfl 2 (by decide) (htw _ px_w272) (fun _ h9 => h9) rfl (by decide +kernel) (by decide +kernel) (by decide +kernel) (Nat.le_of_ble_eq_true rfl) px_d9_7 (fun H locs hP hD hS => ?_)
  have hP : va_P (dC, dI) vwCl [(h0, .inr (9, [.ref q0, .int 0, .int 0])), (q0, .inl (c0, 160, .inl f0))] H := hP
  have hD : va_D A [(h0, .inr (9, [.ref q0, .int 0, .int 0])), (q0, .inl (c0, 160, .inl f0))] := hD
  rw [← hQ]
  exact W.vret hx hb hr (fun t ht hW => ⟨⟨(0, 0, f0), rfl, hw, by rw [ht]; exact hP, va_K.moved hW.alike hK, hD⟩, hS.F ht⟩) hS.2.2 px_d9_10

def no_L30 (post : Int32 → Int32 → Int32 → (Nat → Int32) → Prop) (y0 : Int32) (n0 : Int32) (m0 : Int32) (f0 : Nat → Int32) : Prop := narrow .boolean (.int y0) = .int y0 ∧ post y0 n0 m0 f0
def no_L29 (post : Int32 → Int32 → Int32 → (Nat → Int32) → Prop) (n0 : Int32) (m0 : Int32) (f0 : Nat → Int32) : Prop := no_L30 post 0 n0 m0 f0
def no_wp (post : Int32 → Int32 → Int32 → (Nat → Int32) → Prop) (n0 : Int32) (m0 : Int32) (f0 : Nat → Int32) : Prop := (¬ n0 = 1 → no_L29 post n0 m0 f0) ∧ (n0 = 1 → vp_in 0 160 ∧ ((¬ (f0 (Int32.toNatClampNeg 0)) = 1 → no_L29 post n0 m0 f0) ∧ ((f0 (Int32.toNatClampNeg 0)) = 1 → (¬ m0 = 0 → no_L29 post n0 m0 f0) ∧ (m0 = 0 → no_L30 post 1 n0 m0 f0))))
set_option maxHeartbeats 8000000 in
set_option maxRecDepth 100000 in
theorem no_met (l : Launch) (dC : Nat → ClassId) (dI : Nat → Nat → Nat) (sz : Nat) (h0 : Nat) (q0 : Nat) (c0 : ClassId) (n0 : Int32) (m0 : Int32) (f0 : Nat → Int32) (post : Int32 → Int32 → Int32 → (Nat → Int32) → Prop) (hw : no_wp post n0 m0 f0) : Met l px_y12 px_s12 ({ frames := 0, cells := 0, slots := 0, locals := 0 }) (va_Pc [.ref h0] (fun U => U.heap.size = sz ∧ va_P (dC, dI) vwCl [(h0, .inr (9, [.ref q0, .int n0, .int m0])), (q0, .inl (c0, 160, .inl f0))] U.heap ∧ va_K (dC, dI) vwCl [(c0, .int)] U ∧ va_D (fun _ => True) [(h0, .inr (9, [.ref q0, .int n0, .int m0])), (q0, .inl (c0, 160, .inl f0))] ∧ px_N U)) (va_Qi (fun (r : Int32) (u : Int32 × Int32 × (Nat → Int32)) => post r u.1 u.2.1 u.2.2) (fun (u : Int32 × Int32 × (Nat → Int32)) (t : State) => va_P (dC, dI) vwCl [(h0, .inr (9, [.ref q0, .int u.1, .int u.2.1])), (q0, .inl (c0, 160, .inl u.2.2))] t.heap ∧ va_K (dC, dI) vwCl [(c0, .int)] t ∧ va_D (va_A [(h0, .inr (9, [.ref q0, .int n0, .int m0])), (q0, .inl (c0, 160, .inl f0))] sz) [(h0, .inr (9, [.ref q0, .int u.1, .int u.2.1])), (q0, .inl (c0, 160, .inl u.2.2))]) (va_A [(h0, .inr (9, [.ref q0, .int n0, .int m0])), (q0, .inl (c0, 160, .inl f0))] sz)) 0 0 (va_A [(h0, .inr (9, [.ref q0, .int n0, .int m0])), (q0, .inl (c0, 160, .inl f0))] sz) := by
  refine Met.ofW (cc := prog_16_method_5_code) (maxL := 1) (ret := (some .boolean)) (by decide) rfl ?_
  intro p e s m args below meth c s₁ B hml hv
  obtain ⟨rfl, hsz, hP, hK, hD0, hN⟩ := hv
  have hx := B.exec
  have hb := B.bytes
  have hr := B.returns
  have htw : ∀ w ∈ px_all, w.before _ s = true := fun w h => atoms_spec (ws := px_s12) B.pre w (List.mem_cons_of_mem _ h)
  have hown : s.vm.findClass "MatroidDeskModel$Num" = some m.cls := findClass_of_methodNamed B.named
  have hlocks := B.notSynchronized
  subst hsz
  have hD := hD0.self (sz := s.heap.size)
  generalize hAe : va_A [(h0, .inr (9, [.ref q0, .int n0, .int m0])), (q0, .inl (c0, 160, .inl f0))] s.heap.size = A at hD ⊢
  have hA : ∀ q : Nat, s.heap.size ≤ q → A q := fun q h => by rw [← hAe]; exact Or.inr h
  have hS : va_S A s.heap s.heap [] := va_S.rf
  have hP : va_P (dC, dI) vwCl [(h0, .inr (9, [.ref q0, .int n0, .int m0])), (q0, .inl (c0, 160, .inl f0))] s.heap := hP
  have hl := lv_entry ([.ref h0]) (n := 1) (Nat.le_of_ble_eq_true rfl)
  rw [lg_entry_eq]
  generalize (lg_sl ([.ref h0]) ++ List.replicate (1 - (lg_sl ([.ref h0])).length) Slot.unset).toArray = ls at hl ⊢
  have hl : lv_has ls 1 [(0, .ref h0)] := hl
  generalize hQ : MQ _ _ _ _ _ _ _ = Q
  have S30 : ∀ (y0 : Int32) (n0 : Int32) (m0 : Int32) (f0 : Nat → Int32) (H : Heap) (locs : List Loc) (ls : Array Slot), va_P (dC, dI) vwCl [(h0, .inr (9, [.ref q0, .int n0, .int m0])), (q0, .inl (c0, 160, .inl f0))] H → va_D A [(h0, .inr (9, [.ref q0, .int n0, .int m0])), (q0, .inl (c0, 160, .inl f0))] → va_S A s.heap H locs → lv_has ls 1 [(0, .ref h0)] → no_L30 post y0 n0 m0 f0 → W p l e (headSpec px_s12 ({ frames := 0, cells := 0, slots := 0, locals := 0 })).room s m ([.ref h0]).toArray below meth c H locs 0 0 Q (F0 m 30 ls [.int y0]) := by
    intro y0 n0 m0 f0 H locs ls hP hD hS hl hw
    unfold no_L30 at hw
    obtain ⟨hz9, hw⟩ := hw
    rw [← hQ]
    exact W.zret (v := y0) hx hb hr hz9 (fun t ht hW => ⟨⟨y0, (n0, m0, f0), rfl, hw, by rw [ht]; exact hP, va_K.moved hW.alike hK, hD⟩, hS.F ht⟩) hS.2.2 px_d12_30
  have S29 : ∀ (n0 : Int32) (m0 : Int32) (f0 : Nat → Int32) (H : Heap) (locs : List Loc) (ls : Array Slot), va_P (dC, dI) vwCl [(h0, .inr (9, [.ref q0, .int n0, .int m0])), (q0, .inl (c0, 160, .inl f0))] H → va_D A [(h0, .inr (9, [.ref q0, .int n0, .int m0])), (q0, .inl (c0, 160, .inl f0))] → va_S A s.heap H locs → lv_has ls 1 [(0, .ref h0)] → no_L29 post n0 m0 f0 → W p l e (headSpec px_s12 ({ frames := 0, cells := 0, slots := 0, locals := 0 })).room s m ([.ref h0]).toArray below meth c H locs 0 0 Q (F0 m 29 ls []) := by
    intro n0 m0 f0 H locs ls hP hD hS hl hw
    unfold no_L29 at hw
    refine lv_iconst (v := 0) hx hb px_d12_29 (by decide) ?_
    exact S30 0 n0 m0 f0 H locs ls hP hD hS (lv_sub hl [0] rfl) hw
  unfold no_wp at hw
  have hS0 := hS
  obtain ⟨H, hH9⟩ : ∃ z, z = s.heap := ⟨_, rfl⟩
  have hP : va_P (dC, dI) vwCl [(h0, .inr (9, [.ref q0, .int n0, .int m0])), (q0, .inl (c0, 160, .inl f0))] H := by rw [hH9]; exact hP
  obtain ⟨locs, hlo9⟩ : ∃ z : List Loc, z = [] := ⟨_, rfl⟩
  have hS : va_S A s.heap H locs := by rw [hH9, hlo9]; exact hS
  suffices hG : W p l e (headSpec px_s12 ({ frames := 0, cells := 0, slots := 0, locals := 0 })).room s m ([.ref h0]).toArray below meth c H locs 0 0 Q (F0 m 0 ls []) by rw [hH9, hlo9] at hG; exact hG
  refine lv_aload_n hx hb px_d12_0 rfl (lv_at hl 0 rfl) ?_
  refine va_get (D := (dC, dI)) (ci := 9) (v := .int n0) (C := "MatroidDeskModel$Num") (T := px_T9) (N := 3) hx hb htw px_in9 hown hK hP 0 rfl rfl 1 (by decide) (htw _ px_w271) (fun _ h9 => h9) rfl px_d12_1 ?_
  refine lv_iconst (v := 1) hx hb px_d12_4 (by decide) ?_
  refine lv_icmp_ne (tgt := 29) hx hb px_d12_5 (by decide) (fun c5 => ?_) (fun c5 => ?_)
  · have hw := hw.1 c5
    exact S29 n0 m0 f0 H locs ls hP hD hS (lv_sub hl [0] rfl) hw
  · have hw := hw.2 c5
    refine lv_aload_n hx hb px_d12_8 rfl (lv_at hl 0 rfl) ?_
    refine va_get (D := (dC, dI)) (ci := 9) (v := .ref q0) (C := "MatroidDeskModel$Num") (T := px_T9) (N := 3) hx hb htw px_in9 hown hK hP 0 rfl rfl 0 (by decide) (htw _ px_w267) (fun _ h9 => h9) rfl px_d12_9 ?_
    refine lv_iconst (v := 0) hx hb px_d12_12 (by decide) ?_
    obtain ⟨hi13, hw⟩ := hw
    refine va_iald hx hb hK hP 1 0 rfl rfl hi13 px_d12_13 ?_
    refine lv_iconst (v := 1) hx hb px_d12_14 (by decide) ?_
    refine lv_icmp_ne (tgt := 29) hx hb px_d12_15 (by decide) (fun c15 => ?_) (fun c15 => ?_)
    · have hw := hw.1 c15
      exact S29 n0 m0 f0 H locs ls hP hD hS (lv_sub hl [0] rfl) hw
    · have hw := hw.2 c15
      refine lv_aload_n hx hb px_d12_18 rfl (lv_at hl 0 rfl) ?_
      refine va_get (D := (dC, dI)) (ci := 9) (v := .int m0) (C := "MatroidDeskModel$Num") (T := px_T9) (N := 3) hx hb htw px_in9 hown hK hP 0 rfl rfl 2 (by decide) (htw _ px_w272) (fun _ h9 => h9) rfl px_d12_19 ?_
      refine lv_if_ne (tgt := 29) hx hb px_d12_22 (by decide) (fun c22 => ?_) (fun c22 => ?_)
      · have hw := hw.1 c22
        exact S29 n0 m0 f0 H locs ls hP hD hS (lv_sub hl [0] rfl) hw
      · have hw := hw.2 c22
        refine lv_iconst (v := 1) hx hb px_d12_25 (by decide) ?_
        refine lv_goto (tgt := 30) hx hb px_d12_26 (by decide) ?_
        exact S30 1 n0 m0 f0 H locs ls hP hD hS (lv_sub hl [0] rfl) hw

def ns_L23 (post : Int32 → Int32 → Int32 → (Nat → Int32) → Prop) (y0 : Int32) (n0 : Int32) (m0 : Int32) (f0 : Nat → Int32) : Prop := post y0 n0 m0 f0
def ns_wp (post : Int32 → Int32 → Int32 → (Nat → Int32) → Prop) (n0 : Int32) (m0 : Int32) (f0 : Nat → Int32) : Prop := (¬ n0 = 0 → (m0 = 0 → ns_L23 post 1 n0 m0 f0) ∧ (¬ m0 = 0 → ns_L23 post (-1) n0 m0 f0)) ∧ (n0 = 0 → ns_L23 post 0 n0 m0 f0)
set_option maxHeartbeats 8000000 in
set_option maxRecDepth 100000 in
theorem ns_met (l : Launch) (dC : Nat → ClassId) (dI : Nat → Nat → Nat) (sz : Nat) (h0 : Nat) (q0 : Nat) (c0 : ClassId) (n0 : Int32) (m0 : Int32) (f0 : Nat → Int32) (post : Int32 → Int32 → Int32 → (Nat → Int32) → Prop) (hw : ns_wp post n0 m0 f0) : Met l px_y13 px_s13 ({ frames := 0, cells := 0, slots := 0, locals := 0 }) (va_Pc [.ref h0] (fun U => U.heap.size = sz ∧ va_P (dC, dI) vwCl [(h0, .inr (9, [.ref q0, .int n0, .int m0])), (q0, .inl (c0, 160, .inl f0))] U.heap ∧ va_K (dC, dI) vwCl [(c0, .int)] U ∧ va_D (fun _ => True) [(h0, .inr (9, [.ref q0, .int n0, .int m0])), (q0, .inl (c0, 160, .inl f0))] ∧ px_N U)) (va_Qi (fun (r : Int32) (u : Int32 × Int32 × (Nat → Int32)) => post r u.1 u.2.1 u.2.2) (fun (u : Int32 × Int32 × (Nat → Int32)) (t : State) => va_P (dC, dI) vwCl [(h0, .inr (9, [.ref q0, .int u.1, .int u.2.1])), (q0, .inl (c0, 160, .inl u.2.2))] t.heap ∧ va_K (dC, dI) vwCl [(c0, .int)] t ∧ va_D (va_A [(h0, .inr (9, [.ref q0, .int n0, .int m0])), (q0, .inl (c0, 160, .inl f0))] sz) [(h0, .inr (9, [.ref q0, .int u.1, .int u.2.1])), (q0, .inl (c0, 160, .inl u.2.2))]) (va_A [(h0, .inr (9, [.ref q0, .int n0, .int m0])), (q0, .inl (c0, 160, .inl f0))] sz)) 0 0 (va_A [(h0, .inr (9, [.ref q0, .int n0, .int m0])), (q0, .inl (c0, 160, .inl f0))] sz) := by
  refine Met.ofW (cc := prog_16_method_6_code) (maxL := 1) (ret := (some .int)) (by decide) rfl ?_
  intro p e s m args below meth c s₁ B hml hv
  obtain ⟨rfl, hsz, hP, hK, hD0, hN⟩ := hv
  have hx := B.exec
  have hb := B.bytes
  have hr := B.returns
  have htw : ∀ w ∈ px_all, w.before _ s = true := fun w h => atoms_spec (ws := px_s13) B.pre w (List.mem_cons_of_mem _ h)
  have hown : s.vm.findClass "MatroidDeskModel$Num" = some m.cls := findClass_of_methodNamed B.named
  have hlocks := B.notSynchronized
  subst hsz
  have hD := hD0.self (sz := s.heap.size)
  generalize hAe : va_A [(h0, .inr (9, [.ref q0, .int n0, .int m0])), (q0, .inl (c0, 160, .inl f0))] s.heap.size = A at hD ⊢
  have hA : ∀ q : Nat, s.heap.size ≤ q → A q := fun q h => by rw [← hAe]; exact Or.inr h
  have hS : va_S A s.heap s.heap [] := va_S.rf
  have hP : va_P (dC, dI) vwCl [(h0, .inr (9, [.ref q0, .int n0, .int m0])), (q0, .inl (c0, 160, .inl f0))] s.heap := hP
  have hl := lv_entry ([.ref h0]) (n := 1) (Nat.le_of_ble_eq_true rfl)
  rw [lg_entry_eq]
  generalize (lg_sl ([.ref h0]) ++ List.replicate (1 - (lg_sl ([.ref h0])).length) Slot.unset).toArray = ls at hl ⊢
  have hl : lv_has ls 1 [(0, .ref h0)] := hl
  generalize hQ : MQ _ _ _ _ _ _ _ = Q
  have S23 : ∀ (y0 : Int32) (n0 : Int32) (m0 : Int32) (f0 : Nat → Int32) (H : Heap) (locs : List Loc) (ls : Array Slot), va_P (dC, dI) vwCl [(h0, .inr (9, [.ref q0, .int n0, .int m0])), (q0, .inl (c0, 160, .inl f0))] H → va_D A [(h0, .inr (9, [.ref q0, .int n0, .int m0])), (q0, .inl (c0, 160, .inl f0))] → va_S A s.heap H locs → lv_has ls 1 [(0, .ref h0)] → ns_L23 post y0 n0 m0 f0 → W p l e (headSpec px_s13 ({ frames := 0, cells := 0, slots := 0, locals := 0 })).room s m ([.ref h0]).toArray below meth c H locs 0 0 Q (F0 m 23 ls [.int y0]) := by
    intro y0 n0 m0 f0 H locs ls hP hD hS hl hw
    unfold ns_L23 at hw
    rw [← hQ]
    exact W.iret (v := y0) hx hb hr (fun t ht hW => ⟨⟨y0, (n0, m0, f0), rfl, hw, by rw [ht]; exact hP, va_K.moved hW.alike hK, hD⟩, hS.F ht⟩) hS.2.2 px_d13_23
  unfold ns_wp at hw
  have hS0 := hS
  obtain ⟨H, hH9⟩ : ∃ z, z = s.heap := ⟨_, rfl⟩
  have hP : va_P (dC, dI) vwCl [(h0, .inr (9, [.ref q0, .int n0, .int m0])), (q0, .inl (c0, 160, .inl f0))] H := by rw [hH9]; exact hP
  obtain ⟨locs, hlo9⟩ : ∃ z : List Loc, z = [] := ⟨_, rfl⟩
  have hS : va_S A s.heap H locs := by rw [hH9, hlo9]; exact hS
  suffices hG : W p l e (headSpec px_s13 ({ frames := 0, cells := 0, slots := 0, locals := 0 })).room s m ([.ref h0]).toArray below meth c H locs 0 0 Q (F0 m 0 ls []) by rw [hH9, hlo9] at hG; exact hG
  refine lv_aload_n hx hb px_d13_0 rfl (lv_at hl 0 rfl) ?_
  refine va_get (D := (dC, dI)) (ci := 9) (v := .int n0) (C := "MatroidDeskModel$Num") (T := px_T9) (N := 3) hx hb htw px_in9 hown hK hP 0 rfl rfl 1 (by decide) (htw _ px_w271) (fun _ h9 => h9) rfl px_d13_1 ?_
  refine lv_if_ne (tgt := 11) hx hb px_d13_4 (by decide) (fun c4 => ?_) (fun c4 => ?_)
  · have hw := hw.1 c4
    refine lv_aload_n hx hb px_d13_11 rfl (lv_at hl 0 rfl) ?_
    refine va_get (D := (dC, dI)) (ci := 9) (v := .int m0) (C := "MatroidDeskModel$Num") (T := px_T9) (N := 3) hx hb htw px_in9 hown hK hP 0 rfl rfl 2 (by decide) (htw _ px_w272) (fun _ h9 => h9) rfl px_d13_12 ?_
    refine lv_if_eq (tgt := 22) hx hb px_d13_15 (by decide) (fun c15 => ?_) (fun c15 => ?_)
    · have hw := hw.1 c15
      refine lv_iconst (v := 1) hx hb px_d13_22 (by decide) ?_
      exact S23 1 n0 m0 f0 H locs ls hP hD hS (lv_sub hl [0] rfl) hw
    · have hw := hw.2 c15
      refine lv_iconst (v := (-1)) hx hb px_d13_18 (by decide) ?_
      refine lv_goto (tgt := 23) hx hb px_d13_19 (by decide) ?_
      exact S23 (-1) n0 m0 f0 H locs ls hP hD hS (lv_sub hl [0] rfl) hw
  · have hw := hw.2 c4
    refine lv_iconst (v := 0) hx hb px_d13_7 (by decide) ?_
    refine lv_goto (tgt := 23) hx hb px_d13_8 (by decide) ?_
    exact S23 0 n0 m0 f0 H locs ls hP hD hS (lv_sub hl [0] rfl) hw

def nu_L20 (post : Int32 → Int32 → (Nat → Int32) → Prop) (y0 : Int32) (n0 : Int32) (m0 : Int32) (f0 : Nat → Int32) : Prop := (narrow .boolean (.int y0) = .int y0 ∧ fits .boolean (.int y0) = true) ∧ (post n0 y0 f0)
def nu_L19 (post : Int32 → Int32 → (Nat → Int32) → Prop) (n0 : Int32) (m0 : Int32) (f0 : Nat → Int32) : Prop := nu_L20 post 0 n0 m0 f0
def nu_wp (post : Int32 → Int32 → (Nat → Int32) → Prop) (n0 : Int32) (m0 : Int32) (f0 : Nat → Int32) : Prop := (n0 ≤ 0 → nu_L19 post n0 m0 f0) ∧ (¬ n0 ≤ 0 → (¬ m0 = 0 → nu_L19 post n0 m0 f0) ∧ (m0 = 0 → nu_L20 post 1 n0 m0 f0))
set_option maxHeartbeats 8000000 in
set_option maxRecDepth 100000 in
theorem nu_met (l : Launch) (dC : Nat → ClassId) (dI : Nat → Nat → Nat) (sz : Nat) (h0 : Nat) (q0 : Nat) (c0 : ClassId) (n0 : Int32) (m0 : Int32) (f0 : Nat → Int32) (post : Int32 → Int32 → (Nat → Int32) → Prop) (hw : nu_wp post n0 m0 f0) : Met l px_y14 px_s14 ({ frames := 0, cells := 0, slots := 0, locals := 0 }) (va_Pc [.ref h0] (fun U => U.heap.size = sz ∧ va_P (dC, dI) vwCl [(h0, .inr (9, [.ref q0, .int n0, .int m0])), (q0, .inl (c0, 160, .inl f0))] U.heap ∧ va_K (dC, dI) vwCl [(c0, .int)] U ∧ va_D (fun _ => True) [(h0, .inr (9, [.ref q0, .int n0, .int m0])), (q0, .inl (c0, 160, .inl f0))] ∧ px_N U)) (va_Qv (fun (u : Int32 × Int32 × (Nat → Int32)) => post u.1 u.2.1 u.2.2) (fun (u : Int32 × Int32 × (Nat → Int32)) (t : State) => va_P (dC, dI) vwCl [(h0, .inr (9, [.ref q0, .int u.1, .int u.2.1])), (q0, .inl (c0, 160, .inl u.2.2))] t.heap ∧ va_K (dC, dI) vwCl [(c0, .int)] t ∧ va_D (va_A [(h0, .inr (9, [.ref q0, .int n0, .int m0])), (q0, .inl (c0, 160, .inl f0))] sz) [(h0, .inr (9, [.ref q0, .int u.1, .int u.2.1])), (q0, .inl (c0, 160, .inl u.2.2))]) (va_A [(h0, .inr (9, [.ref q0, .int n0, .int m0])), (q0, .inl (c0, 160, .inl f0))] sz)) 0 0 (va_A [(h0, .inr (9, [.ref q0, .int n0, .int m0])), (q0, .inl (c0, 160, .inl f0))] sz) := by
  refine Met.ofW (cc := prog_16_method_7_code) (maxL := 1) (ret := none) (by decide) rfl ?_
  intro p e s m args below meth c s₁ B hml hv
  obtain ⟨rfl, hsz, hP, hK, hD0, hN⟩ := hv
  have hx := B.exec
  have hb := B.bytes
  have hr := B.returns
  have htw : ∀ w ∈ px_all, w.before _ s = true := fun w h => atoms_spec (ws := px_s14) B.pre w (List.mem_cons_of_mem _ h)
  have hown : s.vm.findClass "MatroidDeskModel$Num" = some m.cls := findClass_of_methodNamed B.named
  have hlocks := B.notSynchronized
  subst hsz
  have hD := hD0.self (sz := s.heap.size)
  generalize hAe : va_A [(h0, .inr (9, [.ref q0, .int n0, .int m0])), (q0, .inl (c0, 160, .inl f0))] s.heap.size = A at hD ⊢
  have hA : ∀ q : Nat, s.heap.size ≤ q → A q := fun q h => by rw [← hAe]; exact Or.inr h
  have hS : va_S A s.heap s.heap [] := va_S.rf
  have hP : va_P (dC, dI) vwCl [(h0, .inr (9, [.ref q0, .int n0, .int m0])), (q0, .inl (c0, 160, .inl f0))] s.heap := hP
  have hl := lv_entry ([.ref h0]) (n := 1) (Nat.le_of_ble_eq_true rfl)
  rw [lg_entry_eq]
  generalize (lg_sl ([.ref h0]) ++ List.replicate (1 - (lg_sl ([.ref h0])).length) Slot.unset).toArray = ls at hl ⊢
  have hl : lv_has ls 1 [(0, .ref h0)] := hl
  generalize hQ : MQ _ _ _ _ _ _ _ = Q
  have S20 : ∀ (y0 : Int32) (n0 : Int32) (m0 : Int32) (f0 : Nat → Int32) (H : Heap) (locs : List Loc) (ls : Array Slot), va_P (dC, dI) vwCl [(h0, .inr (9, [.ref q0, .int n0, .int m0])), (q0, .inl (c0, 160, .inl f0))] H → va_D A [(h0, .inr (9, [.ref q0, .int n0, .int m0])), (q0, .inl (c0, 160, .inl f0))] → va_S A s.heap H locs → lv_has ls 1 [(0, .ref h0)] → nu_L20 post y0 n0 m0 f0 → W p l e (headSpec px_s14 ({ frames := 0, cells := 0, slots := 0, locals := 0 })).room s m ([.ref h0]).toArray below meth c H locs 0 0 Q (F0 m 20 ls [.int y0, .ref h0]) := by
    intro y0 n0 m0 f0 H locs ls hP hD hS hl hw
    unfold nu_L20 at hw
    obtain ⟨hz20, hw⟩ := hw
    refine va_put (D := (dC, dI)) (ci := 9) (v := .int y0) (ty := .boolean) (C := "MatroidDeskModel$Num") (T := px_T9) (N := 3) hx hb htw px_in9 px_ty9 px_tyok9 px_nm9 hown hK hP hD hS 0 rfl rfl 2 (by decide) (htw _ px_w272) (fun _ h9 => h9) rfl (by decide +kernel) (hz20).1 (hz20).2 (Nat.le_of_ble_eq_true rfl) px_d14_20 (fun H locs hP hD hS => ?_)
    have hP : va_P (dC, dI) vwCl [(h0, .inr (9, [.ref q0, .int n0, .int y0])), (q0, .inl (c0, 160, .inl f0))] H := hP
    have hD : va_D A [(h0, .inr (9, [.ref q0, .int n0, .int y0])), (q0, .inl (c0, 160, .inl f0))] := hD
    rw [← hQ]
    exact W.vret hx hb hr (fun t ht hW => ⟨⟨(n0, y0, f0), rfl, hw, by rw [ht]; exact hP, va_K.moved hW.alike hK, hD⟩, hS.F ht⟩) hS.2.2 px_d14_23
  have S19 : ∀ (n0 : Int32) (m0 : Int32) (f0 : Nat → Int32) (H : Heap) (locs : List Loc) (ls : Array Slot), va_P (dC, dI) vwCl [(h0, .inr (9, [.ref q0, .int n0, .int m0])), (q0, .inl (c0, 160, .inl f0))] H → va_D A [(h0, .inr (9, [.ref q0, .int n0, .int m0])), (q0, .inl (c0, 160, .inl f0))] → va_S A s.heap H locs → lv_has ls 1 [(0, .ref h0)] → nu_L19 post n0 m0 f0 → W p l e (headSpec px_s14 ({ frames := 0, cells := 0, slots := 0, locals := 0 })).room s m ([.ref h0]).toArray below meth c H locs 0 0 Q (F0 m 19 ls [.ref h0]) := by
    intro n0 m0 f0 H locs ls hP hD hS hl hw
    unfold nu_L19 at hw
    refine lv_iconst (v := 0) hx hb px_d14_19 (by decide) ?_
    exact S20 0 n0 m0 f0 H locs ls hP hD hS (lv_sub hl [0] rfl) hw
  unfold nu_wp at hw
  have hS0 := hS
  obtain ⟨H, hH9⟩ : ∃ z, z = s.heap := ⟨_, rfl⟩
  have hP : va_P (dC, dI) vwCl [(h0, .inr (9, [.ref q0, .int n0, .int m0])), (q0, .inl (c0, 160, .inl f0))] H := by rw [hH9]; exact hP
  obtain ⟨locs, hlo9⟩ : ∃ z : List Loc, z = [] := ⟨_, rfl⟩
  have hS : va_S A s.heap H locs := by rw [hH9, hlo9]; exact hS
  suffices hG : W p l e (headSpec px_s14 ({ frames := 0, cells := 0, slots := 0, locals := 0 })).room s m ([.ref h0]).toArray below meth c H locs 0 0 Q (F0 m 0 ls []) by rw [hH9, hlo9] at hG; exact hG
  refine lv_aload_n hx hb px_d14_0 rfl (lv_at hl 0 rfl) ?_
  refine lv_aload_n hx hb px_d14_1 rfl (lv_at hl 0 rfl) ?_
  refine va_get (D := (dC, dI)) (ci := 9) (v := .int n0) (C := "MatroidDeskModel$Num") (T := px_T9) (N := 3) hx hb htw px_in9 hown hK hP 0 rfl rfl 1 (by decide) (htw _ px_w271) (fun _ h9 => h9) rfl px_d14_2 ?_
  refine lv_if_le (tgt := 19) hx hb px_d14_5 (by decide) (fun c5 => ?_) (fun c5 => ?_)
  · have hw := hw.1 c5
    exact S19 n0 m0 f0 H locs ls hP hD hS (lv_sub hl [0] rfl) hw
  · have hw := hw.2 c5
    refine lv_aload_n hx hb px_d14_8 rfl (lv_at hl 0 rfl) ?_
    refine va_get (D := (dC, dI)) (ci := 9) (v := .int m0) (C := "MatroidDeskModel$Num") (T := px_T9) (N := 3) hx hb htw px_in9 hown hK hP 0 rfl rfl 2 (by decide) (htw _ px_w272) (fun _ h9 => h9) rfl px_d14_9 ?_
    refine lv_if_ne (tgt := 19) hx hb px_d14_12 (by decide) (fun c12 => ?_) (fun c12 => ?_)
    · have hw := hw.1 c12
      exact S19 n0 m0 f0 H locs ls hP hD hS (lv_sub hl [0] rfl) hw
    · have hw := hw.2 c12
      refine lv_iconst (v := 1) hx hb px_d14_15 (by decide) ?_
      refine lv_goto (tgt := 20) hx hb px_d14_16 (by decide) ?_
      exact S20 1 n0 m0 f0 H locs ls hP hD hS (lv_sub hl [0] rfl) hw

def nt_L54 (post : Int32 → Int32 → (Nat → Int32) → Prop) (y0 : Int32) (n0 : Int32) (m0 : Int32) (f0 : Nat → Int32) : Prop := (narrow .boolean (.int y0) = .int y0 ∧ fits .boolean (.int y0) = true) ∧ (post n0 y0 f0)
def nt_L53 (post : Int32 → Int32 → (Nat → Int32) → Prop) (n0 : Int32) (m0 : Int32) (f0 : Nat → Int32) : Prop := nt_L54 post 0 n0 m0 f0
def nt_L34 (post : Int32 → Int32 → (Nat → Int32) → Prop) (n0 : Int32) (m0 : Int32) (f0 : Nat → Int32) : Prop := (m0 = 0 → nt_L53 post n0 m0 f0) ∧ (¬ m0 = 0 → (n0 ≤ 0 → nt_L53 post n0 m0 f0) ∧ (¬ n0 ≤ 0 → nt_L54 post 1 n0 m0 f0))
def nt_L0 (post : Int32 → Int32 → (Nat → Int32) → Prop) : Nat → Int32 → Int32 → (Nat → Int32) → Prop
  | 0 => fun _ _ _ => False
  | k + 1 => fun n0 m0 f0 => (n0 ≤ 0 → nt_L34 post n0 m0 f0) ∧ (¬ n0 ≤ 0 → vp_in (n0 - 1) 160 ∧ ((¬ (f0 (Int32.toNatClampNeg (n0 - 1))) = 0 → nt_L34 post n0 m0 f0) ∧ ((f0 (Int32.toNatClampNeg (n0 - 1))) = 0 → ∀ z1 : Int32, z1 = n0 - 1 → (nt_L0 post k) z1 m0 f0)))
def nt_wp (post : Int32 → Int32 → (Nat → Int32) → Prop) (n0 : Int32) (m0 : Int32) (f0 : Nat → Int32) : Prop := ∃ j0, nt_L0 post j0 n0 m0 f0
set_option maxHeartbeats 8000000 in
set_option maxRecDepth 100000 in
theorem nt_met (l : Launch) (dC : Nat → ClassId) (dI : Nat → Nat → Nat) (sz : Nat) (h0 : Nat) (q0 : Nat) (c0 : ClassId) (n0 : Int32) (m0 : Int32) (f0 : Nat → Int32) (post : Int32 → Int32 → (Nat → Int32) → Prop) (hw : nt_wp post n0 m0 f0) : Met l px_y15 px_s15 ({ frames := 0, cells := 0, slots := 0, locals := 0 }) (va_Pc [.ref h0] (fun U => U.heap.size = sz ∧ va_P (dC, dI) vwCl [(h0, .inr (9, [.ref q0, .int n0, .int m0])), (q0, .inl (c0, 160, .inl f0))] U.heap ∧ va_K (dC, dI) vwCl [(c0, .int)] U ∧ va_D (fun _ => True) [(h0, .inr (9, [.ref q0, .int n0, .int m0])), (q0, .inl (c0, 160, .inl f0))] ∧ px_N U)) (va_Qv (fun (u : Int32 × Int32 × (Nat → Int32)) => post u.1 u.2.1 u.2.2) (fun (u : Int32 × Int32 × (Nat → Int32)) (t : State) => va_P (dC, dI) vwCl [(h0, .inr (9, [.ref q0, .int u.1, .int u.2.1])), (q0, .inl (c0, 160, .inl u.2.2))] t.heap ∧ va_K (dC, dI) vwCl [(c0, .int)] t ∧ va_D (va_A [(h0, .inr (9, [.ref q0, .int n0, .int m0])), (q0, .inl (c0, 160, .inl f0))] sz) [(h0, .inr (9, [.ref q0, .int u.1, .int u.2.1])), (q0, .inl (c0, 160, .inl u.2.2))]) (va_A [(h0, .inr (9, [.ref q0, .int n0, .int m0])), (q0, .inl (c0, 160, .inl f0))] sz)) 0 0 (va_A [(h0, .inr (9, [.ref q0, .int n0, .int m0])), (q0, .inl (c0, 160, .inl f0))] sz) := by
  refine Met.ofW (cc := prog_16_method_8_code) (maxL := 1) (ret := none) (by decide) rfl ?_
  intro p e s m args below meth c s₁ B hml hv
  obtain ⟨rfl, hsz, hP, hK, hD0, hN⟩ := hv
  have hx := B.exec
  have hb := B.bytes
  have hr := B.returns
  have htw : ∀ w ∈ px_all, w.before _ s = true := fun w h => atoms_spec (ws := px_s15) B.pre w (List.mem_cons_of_mem _ h)
  have hown : s.vm.findClass "MatroidDeskModel$Num" = some m.cls := findClass_of_methodNamed B.named
  have hlocks := B.notSynchronized
  subst hsz
  have hD := hD0.self (sz := s.heap.size)
  generalize hAe : va_A [(h0, .inr (9, [.ref q0, .int n0, .int m0])), (q0, .inl (c0, 160, .inl f0))] s.heap.size = A at hD ⊢
  have hA : ∀ q : Nat, s.heap.size ≤ q → A q := fun q h => by rw [← hAe]; exact Or.inr h
  have hS : va_S A s.heap s.heap [] := va_S.rf
  have hP : va_P (dC, dI) vwCl [(h0, .inr (9, [.ref q0, .int n0, .int m0])), (q0, .inl (c0, 160, .inl f0))] s.heap := hP
  have hl := lv_entry ([.ref h0]) (n := 1) (Nat.le_of_ble_eq_true rfl)
  rw [lg_entry_eq]
  generalize (lg_sl ([.ref h0]) ++ List.replicate (1 - (lg_sl ([.ref h0])).length) Slot.unset).toArray = ls at hl ⊢
  have hl : lv_has ls 1 [(0, .ref h0)] := hl
  generalize hQ : MQ _ _ _ _ _ _ _ = Q
  have S54 : ∀ (y0 : Int32) (n0 : Int32) (m0 : Int32) (f0 : Nat → Int32) (H : Heap) (locs : List Loc) (ls : Array Slot), va_P (dC, dI) vwCl [(h0, .inr (9, [.ref q0, .int n0, .int m0])), (q0, .inl (c0, 160, .inl f0))] H → va_D A [(h0, .inr (9, [.ref q0, .int n0, .int m0])), (q0, .inl (c0, 160, .inl f0))] → va_S A s.heap H locs → lv_has ls 1 [(0, .ref h0)] → nt_L54 post y0 n0 m0 f0 → W p l e (headSpec px_s15 ({ frames := 0, cells := 0, slots := 0, locals := 0 })).room s m ([.ref h0]).toArray below meth c H locs 0 0 Q (F0 m 54 ls [.int y0, .ref h0]) := by
    intro y0 n0 m0 f0 H locs ls hP hD hS hl hw
    unfold nt_L54 at hw
    obtain ⟨hz54, hw⟩ := hw
    refine va_put (D := (dC, dI)) (ci := 9) (v := .int y0) (ty := .boolean) (C := "MatroidDeskModel$Num") (T := px_T9) (N := 3) hx hb htw px_in9 px_ty9 px_tyok9 px_nm9 hown hK hP hD hS 0 rfl rfl 2 (by decide) (htw _ px_w272) (fun _ h9 => h9) rfl (by decide +kernel) (hz54).1 (hz54).2 (Nat.le_of_ble_eq_true rfl) px_d15_54 (fun H locs hP hD hS => ?_)
    have hP : va_P (dC, dI) vwCl [(h0, .inr (9, [.ref q0, .int n0, .int y0])), (q0, .inl (c0, 160, .inl f0))] H := hP
    have hD : va_D A [(h0, .inr (9, [.ref q0, .int n0, .int y0])), (q0, .inl (c0, 160, .inl f0))] := hD
    rw [← hQ]
    exact W.vret hx hb hr (fun t ht hW => ⟨⟨(n0, y0, f0), rfl, hw, by rw [ht]; exact hP, va_K.moved hW.alike hK, hD⟩, hS.F ht⟩) hS.2.2 px_d15_57
  have S53 : ∀ (n0 : Int32) (m0 : Int32) (f0 : Nat → Int32) (H : Heap) (locs : List Loc) (ls : Array Slot), va_P (dC, dI) vwCl [(h0, .inr (9, [.ref q0, .int n0, .int m0])), (q0, .inl (c0, 160, .inl f0))] H → va_D A [(h0, .inr (9, [.ref q0, .int n0, .int m0])), (q0, .inl (c0, 160, .inl f0))] → va_S A s.heap H locs → lv_has ls 1 [(0, .ref h0)] → nt_L53 post n0 m0 f0 → W p l e (headSpec px_s15 ({ frames := 0, cells := 0, slots := 0, locals := 0 })).room s m ([.ref h0]).toArray below meth c H locs 0 0 Q (F0 m 53 ls [.ref h0]) := by
    intro n0 m0 f0 H locs ls hP hD hS hl hw
    unfold nt_L53 at hw
    refine lv_iconst (v := 0) hx hb px_d15_53 (by decide) ?_
    exact S54 0 n0 m0 f0 H locs ls hP hD hS (lv_sub hl [0] rfl) hw
  have S34 : ∀ (n0 : Int32) (m0 : Int32) (f0 : Nat → Int32) (H : Heap) (locs : List Loc) (ls : Array Slot), va_P (dC, dI) vwCl [(h0, .inr (9, [.ref q0, .int n0, .int m0])), (q0, .inl (c0, 160, .inl f0))] H → va_D A [(h0, .inr (9, [.ref q0, .int n0, .int m0])), (q0, .inl (c0, 160, .inl f0))] → va_S A s.heap H locs → lv_has ls 1 [(0, .ref h0)] → nt_L34 post n0 m0 f0 → W p l e (headSpec px_s15 ({ frames := 0, cells := 0, slots := 0, locals := 0 })).room s m ([.ref h0]).toArray below meth c H locs 0 0 Q (F0 m 34 ls []) := by
    intro n0 m0 f0 H locs ls hP hD hS hl hw
    unfold nt_L34 at hw
    refine lv_aload_n hx hb px_d15_34 rfl (lv_at hl 0 rfl) ?_
    refine lv_aload_n hx hb px_d15_35 rfl (lv_at hl 0 rfl) ?_
    refine va_get (D := (dC, dI)) (ci := 9) (v := .int m0) (C := "MatroidDeskModel$Num") (T := px_T9) (N := 3) hx hb htw px_in9 hown hK hP 0 rfl rfl 2 (by decide) (htw _ px_w272) (fun _ h9 => h9) rfl px_d15_36 ?_
    refine lv_if_eq (tgt := 53) hx hb px_d15_39 (by decide) (fun c39 => ?_) (fun c39 => ?_)
    · have hw := hw.1 c39
      exact S53 n0 m0 f0 H locs ls hP hD hS (lv_sub hl [0] rfl) hw
    · have hw := hw.2 c39
      refine lv_aload_n hx hb px_d15_42 rfl (lv_at hl 0 rfl) ?_
      refine va_get (D := (dC, dI)) (ci := 9) (v := .int n0) (C := "MatroidDeskModel$Num") (T := px_T9) (N := 3) hx hb htw px_in9 hown hK hP 0 rfl rfl 1 (by decide) (htw _ px_w271) (fun _ h9 => h9) rfl px_d15_43 ?_
      refine lv_if_le (tgt := 53) hx hb px_d15_46 (by decide) (fun c46 => ?_) (fun c46 => ?_)
      · have hw := hw.1 c46
        exact S53 n0 m0 f0 H locs ls hP hD hS (lv_sub hl [0] rfl) hw
      · have hw := hw.2 c46
        refine lv_iconst (v := 1) hx hb px_d15_49 (by decide) ?_
        refine lv_goto (tgt := 54) hx hb px_d15_50 (by decide) ?_
        exact S54 1 n0 m0 f0 H locs ls hP hD hS (lv_sub hl [0] rfl) hw
  have S0 : ∀ (k0 : Nat) (n0 : Int32) (m0 : Int32) (f0 : Nat → Int32) (H : Heap) (locs : List Loc) (ls : Array Slot), va_P (dC, dI) vwCl [(h0, .inr (9, [.ref q0, .int n0, .int m0])), (q0, .inl (c0, 160, .inl f0))] H → va_D A [(h0, .inr (9, [.ref q0, .int n0, .int m0])), (q0, .inl (c0, 160, .inl f0))] → va_S A s.heap H locs → lv_has ls 1 [(0, .ref h0)] → nt_L0 post k0 n0 m0 f0 → W p l e (headSpec px_s15 ({ frames := 0, cells := 0, slots := 0, locals := 0 })).room s m ([.ref h0]).toArray below meth c H locs 0 0 Q (F0 m 0 ls []) := by
    intro k0
    induction k0 with
    | zero => intro n0 m0 f0 H locs ls hP hD hS hl hw; exact False.elim hw
    | succ k0 ih0 =>
      intro n0 m0 f0 H locs ls hP hD hS hl hw
      unfold nt_L0 at hw
      refine lv_aload_n hx hb px_d15_0 rfl (lv_at hl 0 rfl) ?_
      refine va_get (D := (dC, dI)) (ci := 9) (v := .int n0) (C := "MatroidDeskModel$Num") (T := px_T9) (N := 3) hx hb htw px_in9 hown hK hP 0 rfl rfl 1 (by decide) (htw _ px_w271) (fun _ h9 => h9) rfl px_d15_1 ?_
      refine lv_if_le (tgt := 34) hx hb px_d15_4 (by decide) (fun c4 => ?_) (fun c4 => ?_)
      · have hw := hw.1 c4
        exact S34 n0 m0 f0 H locs ls hP hD hS (lv_sub hl [0] rfl) hw
      · have hw := hw.2 c4
        refine lv_aload_n hx hb px_d15_7 rfl (lv_at hl 0 rfl) ?_
        refine va_get (D := (dC, dI)) (ci := 9) (v := .ref q0) (C := "MatroidDeskModel$Num") (T := px_T9) (N := 3) hx hb htw px_in9 hown hK hP 0 rfl rfl 0 (by decide) (htw _ px_w267) (fun _ h9 => h9) rfl px_d15_8 ?_
        refine lv_aload_n hx hb px_d15_11 rfl (lv_at hl 0 rfl) ?_
        refine va_get (D := (dC, dI)) (ci := 9) (v := .int n0) (C := "MatroidDeskModel$Num") (T := px_T9) (N := 3) hx hb htw px_in9 hown hK hP 0 rfl rfl 1 (by decide) (htw _ px_w271) (fun _ h9 => h9) rfl px_d15_12 ?_
        refine lv_iconst (v := 1) hx hb px_d15_15 (by decide) ?_
        refine lv_isub hx hb px_d15_16 ?_
        obtain ⟨hi17, hw⟩ := hw
        refine va_iald hx hb hK hP 1 0 rfl rfl hi17 px_d15_17 ?_
        refine lv_if_ne (tgt := 34) hx hb px_d15_18 (by decide) (fun c18 => ?_) (fun c18 => ?_)
        · have hw := hw.1 c18
          exact S34 n0 m0 f0 H locs ls hP hD hS (lv_sub hl [0] rfl) hw
        · have hw := hw.2 c18
          refine lv_aload_n hx hb px_d15_21 rfl (lv_at hl 0 rfl) ?_
          refine lv_dup hx hb px_d15_22 rfl ?_
          refine va_get (D := (dC, dI)) (ci := 9) (v := .int n0) (C := "MatroidDeskModel$Num") (T := px_T9) (N := 3) hx hb htw px_in9 hown hK hP 0 rfl rfl 1 (by decide) (htw _ px_w271) (fun _ h9 => h9) rfl px_d15_23 ?_
          refine lv_iconst (v := 1) hx hb px_d15_26 (by decide) ?_
          refine lv_isub hx hb px_d15_27 ?_
          refine lv_topi (fun z1 ez1 => ?_)
          have hw := hw z1 ez1
          refine va_put (D := (dC, dI)) (ci := 9) (v := .int z1) (ty := .int) (C := "MatroidDeskModel$Num") (T := px_T9) (N := 3) hx hb htw px_in9 px_ty9 px_tyok9 px_nm9 hown hK hP hD hS 0 rfl rfl 1 (by decide) (htw _ px_w271) (fun _ h9 => h9) rfl (by decide +kernel) rfl rfl (Nat.le_of_ble_eq_true rfl) px_d15_28 (fun H locs hP hD hS => ?_)
          have hP : va_P (dC, dI) vwCl [(h0, .inr (9, [.ref q0, .int z1, .int m0])), (q0, .inl (c0, 160, .inl f0))] H := hP
          have hD : va_D A [(h0, .inr (9, [.ref q0, .int z1, .int m0])), (q0, .inl (c0, 160, .inl f0))] := hD
          refine lv_goto (tgt := 0) hx hb px_d15_31 (by decide) ?_
          exact ih0 z1 m0 f0 H locs ls hP hD hS (lv_sub hl [0] rfl) hw
  unfold nt_wp at hw
  have hS0 := hS
  obtain ⟨H, hH9⟩ : ∃ z, z = s.heap := ⟨_, rfl⟩
  have hP : va_P (dC, dI) vwCl [(h0, .inr (9, [.ref q0, .int n0, .int m0])), (q0, .inl (c0, 160, .inl f0))] H := by rw [hH9]; exact hP
  obtain ⟨locs, hlo9⟩ : ∃ z : List Loc, z = [] := ⟨_, rfl⟩
  have hS : va_S A s.heap H locs := by rw [hH9, hlo9]; exact hS
  suffices hG : W p l e (headSpec px_s15 ({ frames := 0, cells := 0, slots := 0, locals := 0 })).room s m ([.ref h0]).toArray below meth c H locs 0 0 Q (F0 m 0 ls []) by rw [hH9, hlo9] at hG; exact hG
  obtain ⟨k9, hw⟩ := hw
  exact S0 k9 n0 m0 f0 H locs ls hP hD hS (lv_sub hl [0] rfl) hw

def ncp_L18 (post : Int32 → Int32 → (Nat → Int32) → Int32 → Int32 → (Nat → Int32) → Prop) : Nat → Int32 → Int32 → Int32 → (Nat → Int32) → Int32 → Int32 → (Nat → Int32) → Prop
  | 0 => fun _ _ _ _ _ _ _ => False
  | k + 1 => fun x2 n0 m0 f0 n1 m1 f1 => (n0 ≤ x2 → post n0 m0 f0 n1 m1 f1) ∧ (¬ n0 ≤ x2 → vp_in x2 160 ∧ (∀ z1 : Int32, z1 = f1 (Int32.toNatClampNeg x2) → vp_in x2 160 ∧ (∀ z2 : Int32, z2 = x2 + 1 → (ncp_L18 post k) z2 n0 m0 (upd f0 (Int32.toNatClampNeg x2) z1) n1 m1 f1)))
def ncp_wp (post : Int32 → Int32 → (Nat → Int32) → Int32 → Int32 → (Nat → Int32) → Prop) (n0 : Int32) (m0 : Int32) (f0 : Nat → Int32) (n1 : Int32) (m1 : Int32) (f1 : Nat → Int32) : Prop := (narrow .boolean (.int m1) = .int m1 ∧ fits .boolean (.int m1) = true) ∧ (∃ j18, ncp_L18 post j18 0 n1 m1 f0 n1 m1 f1)
set_option maxHeartbeats 8000000 in
set_option maxRecDepth 100000 in
theorem ncp_met (l : Launch) (dC : Nat → ClassId) (dI : Nat → Nat → Nat) (sz : Nat) (h0 : Nat) (q0 : Nat) (h1 : Nat) (q1 : Nat) (c0 : ClassId) (c1 : ClassId) (n0 : Int32) (m0 : Int32) (f0 : Nat → Int32) (n1 : Int32) (m1 : Int32) (f1 : Nat → Int32) (post : Int32 → Int32 → (Nat → Int32) → Int32 → Int32 → (Nat → Int32) → Prop) (hw : ncp_wp post n0 m0 f0 n1 m1 f1) : Met l px_y10 px_s10 ({ frames := 0, cells := 0, slots := 0, locals := 0 }) (va_Pc [.ref h0, .ref h1] (fun U => U.heap.size = sz ∧ va_P (dC, dI) vwCl [(h0, .inr (9, [.ref q0, .int n0, .int m0])), (q0, .inl (c0, 160, .inl f0)), (h1, .inr (9, [.ref q1, .int n1, .int m1])), (q1, .inl (c1, 160, .inl f1))] U.heap ∧ va_K (dC, dI) vwCl [(c0, .int), (c1, .int)] U ∧ va_D (fun _ => True) [(h0, .inr (9, [.ref q0, .int n0, .int m0])), (q0, .inl (c0, 160, .inl f0)), (h1, .inr (9, [.ref q1, .int n1, .int m1])), (q1, .inl (c1, 160, .inl f1))] ∧ px_N U)) (va_Qv (fun (u : Int32 × Int32 × (Nat → Int32) × Int32 × Int32 × (Nat → Int32)) => post u.1 u.2.1 u.2.2.1 u.2.2.2.1 u.2.2.2.2.1 u.2.2.2.2.2) (fun (u : Int32 × Int32 × (Nat → Int32) × Int32 × Int32 × (Nat → Int32)) (t : State) => va_P (dC, dI) vwCl [(h0, .inr (9, [.ref q0, .int u.1, .int u.2.1])), (q0, .inl (c0, 160, .inl u.2.2.1)), (h1, .inr (9, [.ref q1, .int u.2.2.2.1, .int u.2.2.2.2.1])), (q1, .inl (c1, 160, .inl u.2.2.2.2.2))] t.heap ∧ va_K (dC, dI) vwCl [(c0, .int), (c1, .int)] t ∧ va_D (va_A [(h0, .inr (9, [.ref q0, .int n0, .int m0])), (q0, .inl (c0, 160, .inl f0)), (h1, .inr (9, [.ref q1, .int n1, .int m1])), (q1, .inl (c1, 160, .inl f1))] sz) [(h0, .inr (9, [.ref q0, .int u.1, .int u.2.1])), (q0, .inl (c0, 160, .inl u.2.2.1)), (h1, .inr (9, [.ref q1, .int u.2.2.2.1, .int u.2.2.2.2.1])), (q1, .inl (c1, 160, .inl u.2.2.2.2.2))]) (va_A [(h0, .inr (9, [.ref q0, .int n0, .int m0])), (q0, .inl (c0, 160, .inl f0)), (h1, .inr (9, [.ref q1, .int n1, .int m1])), (q1, .inl (c1, 160, .inl f1))] sz)) 0 0 (va_A [(h0, .inr (9, [.ref q0, .int n0, .int m0])), (q0, .inl (c0, 160, .inl f0)), (h1, .inr (9, [.ref q1, .int n1, .int m1])), (q1, .inl (c1, 160, .inl f1))] sz) := by
  refine Met.ofW (cc := prog_16_method_3_code) (maxL := 3) (ret := none) (by decide) rfl ?_
  intro p e s m args below meth c s₁ B hml hv
  obtain ⟨rfl, hsz, hP, hK, hD0, hN⟩ := hv
  have hx := B.exec
  have hb := B.bytes
  have hr := B.returns
  have htw : ∀ w ∈ px_all, w.before _ s = true := fun w h => atoms_spec (ws := px_s10) B.pre w (List.mem_cons_of_mem _ h)
  have hown : s.vm.findClass "MatroidDeskModel$Num" = some m.cls := findClass_of_methodNamed B.named
  have hlocks := B.notSynchronized
  subst hsz
  have hD := hD0.self (sz := s.heap.size)
  generalize hAe : va_A [(h0, .inr (9, [.ref q0, .int n0, .int m0])), (q0, .inl (c0, 160, .inl f0)), (h1, .inr (9, [.ref q1, .int n1, .int m1])), (q1, .inl (c1, 160, .inl f1))] s.heap.size = A at hD ⊢
  have hA : ∀ q : Nat, s.heap.size ≤ q → A q := fun q h => by rw [← hAe]; exact Or.inr h
  have hS : va_S A s.heap s.heap [] := va_S.rf
  have hP : va_P (dC, dI) vwCl [(h0, .inr (9, [.ref q0, .int n0, .int m0])), (q0, .inl (c0, 160, .inl f0)), (h1, .inr (9, [.ref q1, .int n1, .int m1])), (q1, .inl (c1, 160, .inl f1))] s.heap := hP
  have hl := lv_entry ([.ref h0, .ref h1]) (n := 3) (Nat.le_of_ble_eq_true rfl)
  rw [lg_entry_eq]
  generalize (lg_sl ([.ref h0, .ref h1]) ++ List.replicate (3 - (lg_sl ([.ref h0, .ref h1])).length) Slot.unset).toArray = ls at hl ⊢
  have hl : lv_has ls 3 [(0, .ref h0), (1, .ref h1)] := hl
  generalize hQ : MQ _ _ _ _ _ _ _ = Q
  have S18 : ∀ (k18 : Nat) (x2 : Int32) (n0 : Int32) (m0 : Int32) (f0 : Nat → Int32) (n1 : Int32) (m1 : Int32) (f1 : Nat → Int32) (H : Heap) (locs : List Loc) (ls : Array Slot), va_P (dC, dI) vwCl [(h0, .inr (9, [.ref q0, .int n0, .int m0])), (q0, .inl (c0, 160, .inl f0)), (h1, .inr (9, [.ref q1, .int n1, .int m1])), (q1, .inl (c1, 160, .inl f1))] H → va_D A [(h0, .inr (9, [.ref q0, .int n0, .int m0])), (q0, .inl (c0, 160, .inl f0)), (h1, .inr (9, [.ref q1, .int n1, .int m1])), (q1, .inl (c1, 160, .inl f1))] → va_S A s.heap H locs → lv_has ls 3 [(0, .ref h0), (1, .ref h1), (2, .int x2)] → ncp_L18 post k18 x2 n0 m0 f0 n1 m1 f1 → W p l e (headSpec px_s10 ({ frames := 0, cells := 0, slots := 0, locals := 0 })).room s m ([.ref h0, .ref h1]).toArray below meth c H locs 0 0 Q (F0 m 18 ls []) := by
    intro k18
    induction k18 with
    | zero => intro x2 n0 m0 f0 n1 m1 f1 H locs ls hP hD hS hl hw; exact False.elim hw
    | succ k18 ih18 =>
      intro x2 n0 m0 f0 n1 m1 f1 H locs ls hP hD hS hl hw
      unfold ncp_L18 at hw
      refine lv_iload_n hx hb px_d10_18 rfl (lv_at hl 2 rfl) ?_
      refine lv_aload_n hx hb px_d10_19 rfl (lv_at hl 0 rfl) ?_
      refine va_get (D := (dC, dI)) (ci := 9) (v := .int n0) (C := "MatroidDeskModel$Num") (T := px_T9) (N := 3) hx hb htw px_in9 hown hK hP 0 rfl rfl 1 (by decide) (htw _ px_w271) (fun _ h9 => h9) rfl px_d10_20 ?_
      refine lv_icmp_ge (tgt := 44) hx hb px_d10_23 (by decide) (fun c23 => ?_) (fun c23 => ?_)
      · have hw := hw.1 c23
        rw [← hQ]
        exact W.vret hx hb hr (fun t ht hW => ⟨⟨(n0, m0, f0, n1, m1, f1), rfl, hw, by rw [ht]; exact hP, va_K.moved hW.alike hK, hD⟩, hS.F ht⟩) hS.2.2 px_d10_44
      · have hw := hw.2 c23
        refine lv_aload_n hx hb px_d10_26 rfl (lv_at hl 0 rfl) ?_
        refine va_get (D := (dC, dI)) (ci := 9) (v := .ref q0) (C := "MatroidDeskModel$Num") (T := px_T9) (N := 3) hx hb htw px_in9 hown hK hP 0 rfl rfl 0 (by decide) (htw _ px_w267) (fun _ h9 => h9) rfl px_d10_27 ?_
        refine lv_iload_n hx hb px_d10_30 rfl (lv_at hl 2 rfl) ?_
        refine lv_aload_n hx hb px_d10_31 rfl (lv_at hl 1 rfl) ?_
        refine va_get (D := (dC, dI)) (ci := 9) (v := .ref q1) (C := "MatroidDeskModel$Num") (T := px_T9) (N := 3) hx hb htw px_in9 hown hK hP 2 rfl rfl 0 (by decide) (htw _ px_w267) (fun _ h9 => h9) rfl px_d10_32 ?_
        refine lv_iload_n hx hb px_d10_35 rfl (lv_at hl 2 rfl) ?_
        obtain ⟨hi36, hw⟩ := hw
        refine va_iald hx hb hK hP 3 1 rfl rfl hi36 px_d10_36 ?_
        refine lv_topi (fun z1 ez1 => ?_)
        have hw := hw z1 ez1
        obtain ⟨hi37, hw⟩ := hw
        refine va_iast hx hb hK hP hD hS 1 0 rfl rfl hi37 px_d10_37 (fun H locs hP hD hS => ?_)
        have hP : va_P (dC, dI) vwCl [(h0, .inr (9, [.ref q0, .int n0, .int m0])), (q0, .inl (c0, 160, .inl (upd f0 (Int32.toNatClampNeg x2) z1))), (h1, .inr (9, [.ref q1, .int n1, .int m1])), (q1, .inl (c1, 160, .inl f1))] H := hP
        have hD : va_D A [(h0, .inr (9, [.ref q0, .int n0, .int m0])), (q0, .inl (c0, 160, .inl (upd f0 (Int32.toNatClampNeg x2) z1))), (h1, .inr (9, [.ref q1, .int n1, .int m1])), (q1, .inl (c1, 160, .inl f1))] := hD
        obtain ⟨z2, ez2⟩ : ∃ y : Int32, y = x2 + 1 := ⟨_, rfl⟩
        have hw := hw z2 ez2
        refine lv_iinc (v := z2) (lv' := [(2, .int z2), (0, .ref h0), (1, .ref h1)]) hx hb px_d10_38 hl (k := 2) rfl (by rw [ez2]; rfl) (by decide) rfl (fun ls hl => ?_)
        refine lv_goto (tgt := 18) hx hb px_d10_41 (by decide) ?_
        exact ih18 z2 n0 m0 (upd f0 (Int32.toNatClampNeg x2) z1) n1 m1 f1 H locs ls hP hD hS (lv_sub hl [1, 2, 0] rfl) hw
  unfold ncp_wp at hw
  have hS0 := hS
  obtain ⟨H, hH9⟩ : ∃ z, z = s.heap := ⟨_, rfl⟩
  have hP : va_P (dC, dI) vwCl [(h0, .inr (9, [.ref q0, .int n0, .int m0])), (q0, .inl (c0, 160, .inl f0)), (h1, .inr (9, [.ref q1, .int n1, .int m1])), (q1, .inl (c1, 160, .inl f1))] H := by rw [hH9]; exact hP
  obtain ⟨locs, hlo9⟩ : ∃ z : List Loc, z = [] := ⟨_, rfl⟩
  have hS : va_S A s.heap H locs := by rw [hH9, hlo9]; exact hS
  suffices hG : W p l e (headSpec px_s10 ({ frames := 0, cells := 0, slots := 0, locals := 0 })).room s m ([.ref h0, .ref h1]).toArray below meth c H locs 0 0 Q (F0 m 0 ls []) by rw [hH9, hlo9] at hG; exact hG
  refine lv_aload_n hx hb px_d10_0 rfl (lv_at hl 0 rfl) ?_
  refine lv_aload_n hx hb px_d10_1 rfl (lv_at hl 1 rfl) ?_
  refine va_get (D := (dC, dI)) (ci := 9) (v := .int n1) (C := "MatroidDeskModel$Num") (T := px_T9) (N := 3) hx hb htw px_in9 hown hK hP 2 rfl rfl 1 (by decide) (htw _ px_w271) (fun _ h9 => h9) rfl px_d10_2 ?_
  refine va_put (D := (dC, dI)) (ci := 9) (v := .int n1) (ty := .int) (C := "MatroidDeskModel$Num") (T := px_T9) (N := 3) hx hb htw px_in9 px_ty9 px_tyok9 px_nm9 hown hK hP hD hS 0 rfl rfl 1 (by decide) (htw _ px_w271) (fun _ h9 => h9) rfl (by decide +kernel) rfl rfl (Nat.le_of_ble_eq_true rfl) px_d10_5 (fun H locs hP hD hS => ?_)
  have hP : va_P (dC, dI) vwCl [(h0, .inr (9, [.ref q0, .int n1, .int m0])), (q0, .inl (c0, 160, .inl f0)), (h1, .inr (9, [.ref q1, .int n1, .int m1])), (q1, .inl (c1, 160, .inl f1))] H := hP
  have hD : va_D A [(h0, .inr (9, [.ref q0, .int n1, .int m0])), (q0, .inl (c0, 160, .inl f0)), (h1, .inr (9, [.ref q1, .int n1, .int m1])), (q1, .inl (c1, 160, .inl f1))] := hD
  refine lv_aload_n hx hb px_d10_8 rfl (lv_at hl 0 rfl) ?_
  refine lv_aload_n hx hb px_d10_9 rfl (lv_at hl 1 rfl) ?_
  refine va_get (D := (dC, dI)) (ci := 9) (v := .int m1) (C := "MatroidDeskModel$Num") (T := px_T9) (N := 3) hx hb htw px_in9 hown hK hP 2 rfl rfl 2 (by decide) (htw _ px_w272) (fun _ h9 => h9) rfl px_d10_10 ?_
  obtain ⟨hz13, hw⟩ := hw
  refine va_put (D := (dC, dI)) (ci := 9) (v := .int m1) (ty := .boolean) (C := "MatroidDeskModel$Num") (T := px_T9) (N := 3) hx hb htw px_in9 px_ty9 px_tyok9 px_nm9 hown hK hP hD hS 0 rfl rfl 2 (by decide) (htw _ px_w272) (fun _ h9 => h9) rfl (by decide +kernel) (hz13).1 (hz13).2 (Nat.le_of_ble_eq_true rfl) px_d10_13 (fun H locs hP hD hS => ?_)
  have hP : va_P (dC, dI) vwCl [(h0, .inr (9, [.ref q0, .int n1, .int m1])), (q0, .inl (c0, 160, .inl f0)), (h1, .inr (9, [.ref q1, .int n1, .int m1])), (q1, .inl (c1, 160, .inl f1))] H := hP
  have hD : va_D A [(h0, .inr (9, [.ref q0, .int n1, .int m1])), (q0, .inl (c0, 160, .inl f0)), (h1, .inr (9, [.ref q1, .int n1, .int m1])), (q1, .inl (c1, 160, .inl f1))] := hD
  refine lv_iconst (v := 0) hx hb px_d10_16 (by decide) ?_
  refine lv_istore_n (lv' := [(2, .int 0), (0, .ref h0), (1, .ref h1)]) hx hb px_d10_17 rfl hl (by decide) rfl (fun ls hl => ?_)
  obtain ⟨k9, hw⟩ := hw
  exact S18 k9 0 n1 m1 f0 n1 m1 f1 H locs ls hP hD hS (lv_sub hl [1, 2, 0] rfl) hw

def ncs_L88 (post : Int32 → Int32 → Int32 → (Nat → Int32) → Int32 → Int32 → (Nat → Int32) → Prop) (x2 : Int32) (y0 : Int32) (n0 : Int32) (m0 : Int32) (f0 : Nat → Int32) (n1 : Int32) (m1 : Int32) (f1 : Nat → Int32) : Prop := post y0 n0 m0 f0 n1 m1 f1
def ncs_L60 (post : Int32 → Int32 → Int32 → (Nat → Int32) → Int32 → Int32 → (Nat → Int32) → Prop) (x2 : Int32) (n0 : Int32) (m0 : Int32) (f0 : Nat → Int32) (n1 : Int32) (m1 : Int32) (f1 : Nat → Int32) : Prop := (0 ≤ x2 → vp_in x2 160 ∧ (vp_in x2 160 ∧ (((f1 (Int32.toNatClampNeg x2)) ≤ (f0 (Int32.toNatClampNeg x2)) → ncs_L88 post x2 1 n0 m0 f0 n1 m1 f1) ∧ (¬ (f1 (Int32.toNatClampNeg x2)) ≤ (f0 (Int32.toNatClampNeg x2)) → ncs_L88 post x2 (-1) n0 m0 f0 n1 m1 f1)))) ∧ (¬ 0 ≤ x2 → ncs_L88 post x2 0 n0 m0 f0 n1 m1 f1)
def ncs_L35 (post : Int32 → Int32 → Int32 → (Nat → Int32) → Int32 → Int32 → (Nat → Int32) → Prop) : Nat → Int32 → Int32 → Int32 → (Nat → Int32) → Int32 → Int32 → (Nat → Int32) → Prop
  | 0 => fun _ _ _ _ _ _ _ => False
  | k + 1 => fun x2 n0 m0 f0 n1 m1 f1 => (x2 < 0 → ncs_L60 post x2 n0 m0 f0 n1 m1 f1) ∧ (¬ x2 < 0 → vp_in x2 160 ∧ (vp_in x2 160 ∧ ((¬ (f0 (Int32.toNatClampNeg x2)) = (f1 (Int32.toNatClampNeg x2)) → ncs_L60 post x2 n0 m0 f0 n1 m1 f1) ∧ ((f0 (Int32.toNatClampNeg x2)) = (f1 (Int32.toNatClampNeg x2)) → ∀ z1 : Int32, z1 = x2 + (-1) → (ncs_L35 post k) z1 n0 m0 f0 n1 m1 f1))))
def ncs_L27 (post : Int32 → Int32 → Int32 → (Nat → Int32) → Int32 → Int32 → (Nat → Int32) → Prop) (y0 : Int32) (n0 : Int32) (m0 : Int32) (f0 : Nat → Int32) (n1 : Int32) (m1 : Int32) (f1 : Nat → Int32) : Prop := post y0 n0 m0 f0 n1 m1 f1
def ncs_wp (post : Int32 → Int32 → Int32 → (Nat → Int32) → Int32 → Int32 → (Nat → Int32) → Prop) (n0 : Int32) (m0 : Int32) (f0 : Nat → Int32) (n1 : Int32) (m1 : Int32) (f1 : Nat → Int32) : Prop := (n0 = n1 → ∀ z2 : Int32, z2 = n0 - 1 → ∃ j35, ncs_L35 post j35 z2 n0 m0 f0 n1 m1 f1) ∧ (¬ n0 = n1 → (n1 ≤ n0 → ncs_L27 post 1 n0 m0 f0 n1 m1 f1) ∧ (¬ n1 ≤ n0 → ncs_L27 post (-1) n0 m0 f0 n1 m1 f1))
set_option maxHeartbeats 8000000 in
set_option maxRecDepth 100000 in
theorem ncs_met (l : Launch) (dC : Nat → ClassId) (dI : Nat → Nat → Nat) (sz : Nat) (h0 : Nat) (q0 : Nat) (h1 : Nat) (q1 : Nat) (c0 : ClassId) (c1 : ClassId) (n0 : Int32) (m0 : Int32) (f0 : Nat → Int32) (n1 : Int32) (m1 : Int32) (f1 : Nat → Int32) (post : Int32 → Int32 → Int32 → (Nat → Int32) → Int32 → Int32 → (Nat → Int32) → Prop) (hw : ncs_wp post n0 m0 f0 n1 m1 f1) : Met l px_y16 px_s16 ({ frames := 0, cells := 0, slots := 0, locals := 0 }) (va_Pc [.ref h0, .ref h1] (fun U => U.heap.size = sz ∧ va_P (dC, dI) vwCl [(h0, .inr (9, [.ref q0, .int n0, .int m0])), (q0, .inl (c0, 160, .inl f0)), (h1, .inr (9, [.ref q1, .int n1, .int m1])), (q1, .inl (c1, 160, .inl f1))] U.heap ∧ va_K (dC, dI) vwCl [(c0, .int), (c1, .int)] U ∧ va_D (fun _ => True) [(h0, .inr (9, [.ref q0, .int n0, .int m0])), (q0, .inl (c0, 160, .inl f0)), (h1, .inr (9, [.ref q1, .int n1, .int m1])), (q1, .inl (c1, 160, .inl f1))] ∧ px_N U)) (va_Qi (fun (r : Int32) (u : Int32 × Int32 × (Nat → Int32) × Int32 × Int32 × (Nat → Int32)) => post r u.1 u.2.1 u.2.2.1 u.2.2.2.1 u.2.2.2.2.1 u.2.2.2.2.2) (fun (u : Int32 × Int32 × (Nat → Int32) × Int32 × Int32 × (Nat → Int32)) (t : State) => va_P (dC, dI) vwCl [(h0, .inr (9, [.ref q0, .int u.1, .int u.2.1])), (q0, .inl (c0, 160, .inl u.2.2.1)), (h1, .inr (9, [.ref q1, .int u.2.2.2.1, .int u.2.2.2.2.1])), (q1, .inl (c1, 160, .inl u.2.2.2.2.2))] t.heap ∧ va_K (dC, dI) vwCl [(c0, .int), (c1, .int)] t ∧ va_D (va_A [(h0, .inr (9, [.ref q0, .int n0, .int m0])), (q0, .inl (c0, 160, .inl f0)), (h1, .inr (9, [.ref q1, .int n1, .int m1])), (q1, .inl (c1, 160, .inl f1))] sz) [(h0, .inr (9, [.ref q0, .int u.1, .int u.2.1])), (q0, .inl (c0, 160, .inl u.2.2.1)), (h1, .inr (9, [.ref q1, .int u.2.2.2.1, .int u.2.2.2.2.1])), (q1, .inl (c1, 160, .inl u.2.2.2.2.2))]) (va_A [(h0, .inr (9, [.ref q0, .int n0, .int m0])), (q0, .inl (c0, 160, .inl f0)), (h1, .inr (9, [.ref q1, .int n1, .int m1])), (q1, .inl (c1, 160, .inl f1))] sz)) 0 0 (va_A [(h0, .inr (9, [.ref q0, .int n0, .int m0])), (q0, .inl (c0, 160, .inl f0)), (h1, .inr (9, [.ref q1, .int n1, .int m1])), (q1, .inl (c1, 160, .inl f1))] sz) := by
  refine Met.ofW (cc := prog_16_method_9_code) (maxL := 3) (ret := (some .int)) (by decide) rfl ?_
  intro p e s m args below meth c s₁ B hml hv
  obtain ⟨rfl, hsz, hP, hK, hD0, hN⟩ := hv
  have hx := B.exec
  have hb := B.bytes
  have hr := B.returns
  have htw : ∀ w ∈ px_all, w.before _ s = true := fun w h => atoms_spec (ws := px_s16) B.pre w (List.mem_cons_of_mem _ h)
  have hown : s.vm.findClass "MatroidDeskModel$Num" = some m.cls := findClass_of_methodNamed B.named
  have hlocks := B.notSynchronized
  subst hsz
  have hD := hD0.self (sz := s.heap.size)
  generalize hAe : va_A [(h0, .inr (9, [.ref q0, .int n0, .int m0])), (q0, .inl (c0, 160, .inl f0)), (h1, .inr (9, [.ref q1, .int n1, .int m1])), (q1, .inl (c1, 160, .inl f1))] s.heap.size = A at hD ⊢
  have hA : ∀ q : Nat, s.heap.size ≤ q → A q := fun q h => by rw [← hAe]; exact Or.inr h
  have hS : va_S A s.heap s.heap [] := va_S.rf
  have hP : va_P (dC, dI) vwCl [(h0, .inr (9, [.ref q0, .int n0, .int m0])), (q0, .inl (c0, 160, .inl f0)), (h1, .inr (9, [.ref q1, .int n1, .int m1])), (q1, .inl (c1, 160, .inl f1))] s.heap := hP
  have hl := lv_entry ([.ref h0, .ref h1]) (n := 3) (Nat.le_of_ble_eq_true rfl)
  rw [lg_entry_eq]
  generalize (lg_sl ([.ref h0, .ref h1]) ++ List.replicate (3 - (lg_sl ([.ref h0, .ref h1])).length) Slot.unset).toArray = ls at hl ⊢
  have hl : lv_has ls 3 [(0, .ref h0), (1, .ref h1)] := hl
  generalize hQ : MQ _ _ _ _ _ _ _ = Q
  have S88 : ∀ (x2 : Int32) (y0 : Int32) (n0 : Int32) (m0 : Int32) (f0 : Nat → Int32) (n1 : Int32) (m1 : Int32) (f1 : Nat → Int32) (H : Heap) (locs : List Loc) (ls : Array Slot), va_P (dC, dI) vwCl [(h0, .inr (9, [.ref q0, .int n0, .int m0])), (q0, .inl (c0, 160, .inl f0)), (h1, .inr (9, [.ref q1, .int n1, .int m1])), (q1, .inl (c1, 160, .inl f1))] H → va_D A [(h0, .inr (9, [.ref q0, .int n0, .int m0])), (q0, .inl (c0, 160, .inl f0)), (h1, .inr (9, [.ref q1, .int n1, .int m1])), (q1, .inl (c1, 160, .inl f1))] → va_S A s.heap H locs → lv_has ls 3 [(0, .ref h0), (1, .ref h1), (2, .int x2)] → ncs_L88 post x2 y0 n0 m0 f0 n1 m1 f1 → W p l e (headSpec px_s16 ({ frames := 0, cells := 0, slots := 0, locals := 0 })).room s m ([.ref h0, .ref h1]).toArray below meth c H locs 0 0 Q (F0 m 88 ls [.int y0]) := by
    intro x2 y0 n0 m0 f0 n1 m1 f1 H locs ls hP hD hS hl hw
    unfold ncs_L88 at hw
    rw [← hQ]
    exact W.iret (v := y0) hx hb hr (fun t ht hW => ⟨⟨y0, (n0, m0, f0, n1, m1, f1), rfl, hw, by rw [ht]; exact hP, va_K.moved hW.alike hK, hD⟩, hS.F ht⟩) hS.2.2 px_d16_88
  have S60 : ∀ (x2 : Int32) (n0 : Int32) (m0 : Int32) (f0 : Nat → Int32) (n1 : Int32) (m1 : Int32) (f1 : Nat → Int32) (H : Heap) (locs : List Loc) (ls : Array Slot), va_P (dC, dI) vwCl [(h0, .inr (9, [.ref q0, .int n0, .int m0])), (q0, .inl (c0, 160, .inl f0)), (h1, .inr (9, [.ref q1, .int n1, .int m1])), (q1, .inl (c1, 160, .inl f1))] H → va_D A [(h0, .inr (9, [.ref q0, .int n0, .int m0])), (q0, .inl (c0, 160, .inl f0)), (h1, .inr (9, [.ref q1, .int n1, .int m1])), (q1, .inl (c1, 160, .inl f1))] → va_S A s.heap H locs → lv_has ls 3 [(0, .ref h0), (1, .ref h1), (2, .int x2)] → ncs_L60 post x2 n0 m0 f0 n1 m1 f1 → W p l e (headSpec px_s16 ({ frames := 0, cells := 0, slots := 0, locals := 0 })).room s m ([.ref h0, .ref h1]).toArray below meth c H locs 0 0 Q (F0 m 60 ls []) := by
    intro x2 n0 m0 f0 n1 m1 f1 H locs ls hP hD hS hl hw
    unfold ncs_L60 at hw
    refine lv_iload_n hx hb px_d16_60 rfl (lv_at hl 2 rfl) ?_
    refine lv_if_ge (tgt := 68) hx hb px_d16_61 (by decide) (fun c61 => ?_) (fun c61 => ?_)
    · have hw := hw.1 c61
      refine lv_aload_n hx hb px_d16_68 rfl (lv_at hl 0 rfl) ?_
      refine va_get (D := (dC, dI)) (ci := 9) (v := .ref q0) (C := "MatroidDeskModel$Num") (T := px_T9) (N := 3) hx hb htw px_in9 hown hK hP 0 rfl rfl 0 (by decide) (htw _ px_w267) (fun _ h9 => h9) rfl px_d16_69 ?_
      refine lv_iload_n hx hb px_d16_72 rfl (lv_at hl 2 rfl) ?_
      obtain ⟨hi73, hw⟩ := hw
      refine va_iald hx hb hK hP 1 0 rfl rfl hi73 px_d16_73 ?_
      refine lv_aload_n hx hb px_d16_74 rfl (lv_at hl 1 rfl) ?_
      refine va_get (D := (dC, dI)) (ci := 9) (v := .ref q1) (C := "MatroidDeskModel$Num") (T := px_T9) (N := 3) hx hb htw px_in9 hown hK hP 2 rfl rfl 0 (by decide) (htw _ px_w267) (fun _ h9 => h9) rfl px_d16_75 ?_
      refine lv_iload_n hx hb px_d16_78 rfl (lv_at hl 2 rfl) ?_
      obtain ⟨hi79, hw⟩ := hw
      refine va_iald hx hb hK hP 3 1 rfl rfl hi79 px_d16_79 ?_
      refine lv_icmp_ge (tgt := 87) hx hb px_d16_80 (by decide) (fun c80 => ?_) (fun c80 => ?_)
      · have hw := hw.1 c80
        refine lv_iconst (v := 1) hx hb px_d16_87 (by decide) ?_
        exact S88 x2 1 n0 m0 f0 n1 m1 f1 H locs ls hP hD hS (lv_sub hl [0, 1, 2] rfl) hw
      · have hw := hw.2 c80
        refine lv_iconst (v := (-1)) hx hb px_d16_83 (by decide) ?_
        refine lv_goto (tgt := 88) hx hb px_d16_84 (by decide) ?_
        exact S88 x2 (-1) n0 m0 f0 n1 m1 f1 H locs ls hP hD hS (lv_sub hl [0, 1, 2] rfl) hw
    · have hw := hw.2 c61
      refine lv_iconst (v := 0) hx hb px_d16_64 (by decide) ?_
      refine lv_goto (tgt := 88) hx hb px_d16_65 (by decide) ?_
      exact S88 x2 0 n0 m0 f0 n1 m1 f1 H locs ls hP hD hS (lv_sub hl [0, 1, 2] rfl) hw
  have S35 : ∀ (k35 : Nat) (x2 : Int32) (n0 : Int32) (m0 : Int32) (f0 : Nat → Int32) (n1 : Int32) (m1 : Int32) (f1 : Nat → Int32) (H : Heap) (locs : List Loc) (ls : Array Slot), va_P (dC, dI) vwCl [(h0, .inr (9, [.ref q0, .int n0, .int m0])), (q0, .inl (c0, 160, .inl f0)), (h1, .inr (9, [.ref q1, .int n1, .int m1])), (q1, .inl (c1, 160, .inl f1))] H → va_D A [(h0, .inr (9, [.ref q0, .int n0, .int m0])), (q0, .inl (c0, 160, .inl f0)), (h1, .inr (9, [.ref q1, .int n1, .int m1])), (q1, .inl (c1, 160, .inl f1))] → va_S A s.heap H locs → lv_has ls 3 [(0, .ref h0), (1, .ref h1), (2, .int x2)] → ncs_L35 post k35 x2 n0 m0 f0 n1 m1 f1 → W p l e (headSpec px_s16 ({ frames := 0, cells := 0, slots := 0, locals := 0 })).room s m ([.ref h0, .ref h1]).toArray below meth c H locs 0 0 Q (F0 m 35 ls []) := by
    intro k35
    induction k35 with
    | zero => intro x2 n0 m0 f0 n1 m1 f1 H locs ls hP hD hS hl hw; exact False.elim hw
    | succ k35 ih35 =>
      intro x2 n0 m0 f0 n1 m1 f1 H locs ls hP hD hS hl hw
      unfold ncs_L35 at hw
      refine lv_iload_n hx hb px_d16_35 rfl (lv_at hl 2 rfl) ?_
      refine lv_if_lt (tgt := 60) hx hb px_d16_36 (by decide) (fun c36 => ?_) (fun c36 => ?_)
      · have hw := hw.1 c36
        exact S60 x2 n0 m0 f0 n1 m1 f1 H locs ls hP hD hS (lv_sub hl [0, 1, 2] rfl) hw
      · have hw := hw.2 c36
        refine lv_aload_n hx hb px_d16_39 rfl (lv_at hl 0 rfl) ?_
        refine va_get (D := (dC, dI)) (ci := 9) (v := .ref q0) (C := "MatroidDeskModel$Num") (T := px_T9) (N := 3) hx hb htw px_in9 hown hK hP 0 rfl rfl 0 (by decide) (htw _ px_w267) (fun _ h9 => h9) rfl px_d16_40 ?_
        refine lv_iload_n hx hb px_d16_43 rfl (lv_at hl 2 rfl) ?_
        obtain ⟨hi44, hw⟩ := hw
        refine va_iald hx hb hK hP 1 0 rfl rfl hi44 px_d16_44 ?_
        refine lv_aload_n hx hb px_d16_45 rfl (lv_at hl 1 rfl) ?_
        refine va_get (D := (dC, dI)) (ci := 9) (v := .ref q1) (C := "MatroidDeskModel$Num") (T := px_T9) (N := 3) hx hb htw px_in9 hown hK hP 2 rfl rfl 0 (by decide) (htw _ px_w267) (fun _ h9 => h9) rfl px_d16_46 ?_
        refine lv_iload_n hx hb px_d16_49 rfl (lv_at hl 2 rfl) ?_
        obtain ⟨hi50, hw⟩ := hw
        refine va_iald hx hb hK hP 3 1 rfl rfl hi50 px_d16_50 ?_
        refine lv_icmp_ne (tgt := 60) hx hb px_d16_51 (by decide) (fun c51 => ?_) (fun c51 => ?_)
        · have hw := hw.1 c51
          exact S60 x2 n0 m0 f0 n1 m1 f1 H locs ls hP hD hS (lv_sub hl [0, 1, 2] rfl) hw
        · have hw := hw.2 c51
          obtain ⟨z1, ez1⟩ : ∃ y : Int32, y = x2 + (-1) := ⟨_, rfl⟩
          have hw := hw z1 ez1
          refine lv_iinc (v := z1) (lv' := [(2, .int z1), (0, .ref h0), (1, .ref h1)]) hx hb px_d16_54 hl (k := 2) rfl (by rw [ez1]; rfl) (by decide) rfl (fun ls hl => ?_)
          refine lv_goto (tgt := 35) hx hb px_d16_57 (by decide) ?_
          exact ih35 z1 n0 m0 f0 n1 m1 f1 H locs ls hP hD hS (lv_sub hl [1, 2, 0] rfl) hw
  have S27 : ∀ (y0 : Int32) (n0 : Int32) (m0 : Int32) (f0 : Nat → Int32) (n1 : Int32) (m1 : Int32) (f1 : Nat → Int32) (H : Heap) (locs : List Loc) (ls : Array Slot), va_P (dC, dI) vwCl [(h0, .inr (9, [.ref q0, .int n0, .int m0])), (q0, .inl (c0, 160, .inl f0)), (h1, .inr (9, [.ref q1, .int n1, .int m1])), (q1, .inl (c1, 160, .inl f1))] H → va_D A [(h0, .inr (9, [.ref q0, .int n0, .int m0])), (q0, .inl (c0, 160, .inl f0)), (h1, .inr (9, [.ref q1, .int n1, .int m1])), (q1, .inl (c1, 160, .inl f1))] → va_S A s.heap H locs → lv_has ls 3 [(0, .ref h0), (1, .ref h1)] → ncs_L27 post y0 n0 m0 f0 n1 m1 f1 → W p l e (headSpec px_s16 ({ frames := 0, cells := 0, slots := 0, locals := 0 })).room s m ([.ref h0, .ref h1]).toArray below meth c H locs 0 0 Q (F0 m 27 ls [.int y0]) := by
    intro y0 n0 m0 f0 n1 m1 f1 H locs ls hP hD hS hl hw
    unfold ncs_L27 at hw
    rw [← hQ]
    exact W.iret (v := y0) hx hb hr (fun t ht hW => ⟨⟨y0, (n0, m0, f0, n1, m1, f1), rfl, hw, by rw [ht]; exact hP, va_K.moved hW.alike hK, hD⟩, hS.F ht⟩) hS.2.2 px_d16_27
  unfold ncs_wp at hw
  have hS0 := hS
  obtain ⟨H, hH9⟩ : ∃ z, z = s.heap := ⟨_, rfl⟩
  have hP : va_P (dC, dI) vwCl [(h0, .inr (9, [.ref q0, .int n0, .int m0])), (q0, .inl (c0, 160, .inl f0)), (h1, .inr (9, [.ref q1, .int n1, .int m1])), (q1, .inl (c1, 160, .inl f1))] H := by rw [hH9]; exact hP
  obtain ⟨locs, hlo9⟩ : ∃ z : List Loc, z = [] := ⟨_, rfl⟩
  have hS : va_S A s.heap H locs := by rw [hH9, hlo9]; exact hS
  suffices hG : W p l e (headSpec px_s16 ({ frames := 0, cells := 0, slots := 0, locals := 0 })).room s m ([.ref h0, .ref h1]).toArray below meth c H locs 0 0 Q (F0 m 0 ls []) by rw [hH9, hlo9] at hG; exact hG
  refine lv_aload_n hx hb px_d16_0 rfl (lv_at hl 0 rfl) ?_
  refine va_get (D := (dC, dI)) (ci := 9) (v := .int n0) (C := "MatroidDeskModel$Num") (T := px_T9) (N := 3) hx hb htw px_in9 hown hK hP 0 rfl rfl 1 (by decide) (htw _ px_w271) (fun _ h9 => h9) rfl px_d16_1 ?_
  refine lv_aload_n hx hb px_d16_4 rfl (lv_at hl 1 rfl) ?_
  refine va_get (D := (dC, dI)) (ci := 9) (v := .int n1) (C := "MatroidDeskModel$Num") (T := px_T9) (N := 3) hx hb htw px_in9 hown hK hP 2 rfl rfl 1 (by decide) (htw _ px_w271) (fun _ h9 => h9) rfl px_d16_5 ?_
  refine lv_icmp_eq (tgt := 28) hx hb px_d16_8 (by decide) (fun c8 => ?_) (fun c8 => ?_)
  · have hw := hw.1 c8
    refine lv_aload_n hx hb px_d16_28 rfl (lv_at hl 0 rfl) ?_
    refine va_get (D := (dC, dI)) (ci := 9) (v := .int n0) (C := "MatroidDeskModel$Num") (T := px_T9) (N := 3) hx hb htw px_in9 hown hK hP 0 rfl rfl 1 (by decide) (htw _ px_w271) (fun _ h9 => h9) rfl px_d16_29 ?_
    refine lv_iconst (v := 1) hx hb px_d16_32 (by decide) ?_
    refine lv_isub hx hb px_d16_33 ?_
    refine lv_topi (fun z2 ez2 => ?_)
    have hw := hw z2 ez2
    refine lv_istore_n (lv' := [(2, .int z2), (0, .ref h0), (1, .ref h1)]) hx hb px_d16_34 rfl hl (by decide) rfl (fun ls hl => ?_)
    obtain ⟨k9, hw⟩ := hw
    exact S35 k9 z2 n0 m0 f0 n1 m1 f1 H locs ls hP hD hS (lv_sub hl [1, 2, 0] rfl) hw
  · have hw := hw.2 c8
    refine lv_aload_n hx hb px_d16_11 rfl (lv_at hl 0 rfl) ?_
    refine va_get (D := (dC, dI)) (ci := 9) (v := .int n0) (C := "MatroidDeskModel$Num") (T := px_T9) (N := 3) hx hb htw px_in9 hown hK hP 0 rfl rfl 1 (by decide) (htw _ px_w271) (fun _ h9 => h9) rfl px_d16_12 ?_
    refine lv_aload_n hx hb px_d16_15 rfl (lv_at hl 1 rfl) ?_
    refine va_get (D := (dC, dI)) (ci := 9) (v := .int n1) (C := "MatroidDeskModel$Num") (T := px_T9) (N := 3) hx hb htw px_in9 hown hK hP 2 rfl rfl 1 (by decide) (htw _ px_w271) (fun _ h9 => h9) rfl px_d16_16 ?_
    refine lv_icmp_ge (tgt := 26) hx hb px_d16_19 (by decide) (fun c19 => ?_) (fun c19 => ?_)
    · have hw := hw.1 c19
      refine lv_iconst (v := 1) hx hb px_d16_26 (by decide) ?_
      exact S27 1 n0 m0 f0 n1 m1 f1 H locs ls hP hD hS (lv_sub hl [0, 1] rfl) hw
    · have hw := hw.2 c19
      refine lv_iconst (v := (-1)) hx hb px_d16_22 (by decide) ?_
      refine lv_goto (tgt := 27) hx hb px_d16_23 (by decide) ?_
      exact S27 (-1) n0 m0 f0 n1 m1 f1 H locs ls hP hD hS (lv_sub hl [0, 1] rfl) hw

def nam_L90 (post : Int32 → Int32 → Int32 → (Nat → Int32) → Int32 → Int32 → (Nat → Int32) → Prop) (x1 : Int32) (x3 : Int64) (x5 : Int32) (y0 : Int32) (n0 : Int32) (m0 : Int32) (f0 : Nat → Int32) (n1 : Int32) (m1 : Int32) (f1 : Nat → Int32) : Prop := narrow .boolean (.int y0) = .int y0 ∧ post y0 n0 m0 f0 n1 m1 f1
def nam_L72 (K5 : Int32 → Int64 → Int32 → Int32 → Int32 → (Nat → Int32) → Int32 → Int32 → (Nat → Int32) → Prop) (post : Int32 → Int32 → Int32 → (Nat → Int32) → Int32 → Int32 → (Nat → Int32) → Prop) (x1 : Int32) (x3 : Int64) (x5 : Int32) (x6 : Int64) (y0 : Int64) (n0 : Int32) (m0 : Int32) (f0 : Nat → Int32) (n1 : Int32) (m1 : Int32) (f1 : Nat → Int32) : Prop := ∀ z1 : Int32, z1 = x5 + 1 → K5 x1 y0 z1 n0 m0 f0 n1 m1 f1
def nam_L48 (K5 : Int32 → Int64 → Int32 → Int32 → Int32 → (Nat → Int32) → Int32 → Int32 → (Nat → Int32) → Prop) (post : Int32 → Int32 → Int32 → (Nat → Int32) → Int32 → Int32 → (Nat → Int32) → Prop) (x1 : Int32) (x3 : Int64) (x5 : Int32) (y0 : Int64) (y1 : Int64) (n0 : Int32) (m0 : Int32) (f0 : Nat → Int32) (n1 : Int32) (m1 : Int32) (f1 : Nat → Int32) : Prop := ∀ z2 : Int64, z2 = y1 - y0 → (0 ≤ (lg_cmp z2 0) → nam_L72 K5 post x1 x3 x5 z2 0 n0 m0 f0 n1 m1 f1) ∧ (¬ 0 ≤ (lg_cmp z2 0) → nam_L72 K5 post x1 x3 x5 z2 ((65535 - z2) / 65536) n0 m0 f0 n1 m1 f1)
def nam_L5 (post : Int32 → Int32 → Int32 → (Nat → Int32) → Int32 → Int32 → (Nat → Int32) → Prop) : Nat → Int32 → Int64 → Int32 → Int32 → Int32 → (Nat → Int32) → Int32 → Int32 → (Nat → Int32) → Prop
  | 0 => fun _ _ _ _ _ _ _ _ _ => False
  | k + 1 => fun x1 x3 x5 n0 m0 f0 n1 m1 f1 => (n1 ≤ x5 → (¬ (lg_cmp x3 0) = 0 → nam_L90 post x1 x3 x5 0 n0 m0 f0 n1 m1 f1) ∧ ((lg_cmp x3 0) = 0 → nam_L90 post x1 x3 x5 1 n0 m0 f0 n1 m1 f1)) ∧ (¬ n1 ≤ x5 → vp_in x5 160 ∧ ((n0 ≤ x5 → nam_L48 (nam_L5 post k) post x1 x3 x5 0 (((f1 (Int32.toNatClampNeg x5)).toInt64) - x3) n0 m0 f0 n1 m1 f1) ∧ (¬ n0 ≤ x5 → vp_in x5 160 ∧ (nam_L48 (nam_L5 post k) post x1 x3 x5 (((f0 (Int32.toNatClampNeg x5)).toInt64) * x1.toInt64) (((f1 (Int32.toNatClampNeg x5)).toInt64) - x3) n0 m0 f0 n1 m1 f1))))
def nam_wp (post : Int32 → Int32 → Int32 → (Nat → Int32) → Int32 → Int32 → (Nat → Int32) → Prop) (bx : Int32) (n0 : Int32) (m0 : Int32) (f0 : Nat → Int32) (n1 : Int32) (m1 : Int32) (f1 : Nat → Int32) : Prop := ∃ j5, nam_L5 post j5 bx 0 0 n0 m0 f0 n1 m1 f1
set_option maxHeartbeats 8000000 in
set_option maxRecDepth 100000 in
theorem nam_met (l : Launch) (dC : Nat → ClassId) (dI : Nat → Nat → Nat) (sz : Nat) (h0 : Nat) (q0 : Nat) (h1 : Nat) (q1 : Nat) (c0 : ClassId) (c1 : ClassId) (bx : Int32) (n0 : Int32) (m0 : Int32) (f0 : Nat → Int32) (n1 : Int32) (m1 : Int32) (f1 : Nat → Int32) (post : Int32 → Int32 → Int32 → (Nat → Int32) → Int32 → Int32 → (Nat → Int32) → Prop) (hw : nam_wp post bx n0 m0 f0 n1 m1 f1) : Met l px_y21 px_s21 ({ frames := 0, cells := 0, slots := 0, locals := 0 }) (va_Pc [.ref h0, .int bx, .ref h1] (fun U => U.heap.size = sz ∧ va_P (dC, dI) vwCl [(h0, .inr (9, [.ref q0, .int n0, .int m0])), (q0, .inl (c0, 160, .inl f0)), (h1, .inr (9, [.ref q1, .int n1, .int m1])), (q1, .inl (c1, 160, .inl f1))] U.heap ∧ va_K (dC, dI) vwCl [(c0, .int), (c1, .int)] U ∧ va_D (fun _ => True) [(h0, .inr (9, [.ref q0, .int n0, .int m0])), (q0, .inl (c0, 160, .inl f0)), (h1, .inr (9, [.ref q1, .int n1, .int m1])), (q1, .inl (c1, 160, .inl f1))] ∧ px_N U)) (va_Qi (fun (r : Int32) (u : Int32 × Int32 × (Nat → Int32) × Int32 × Int32 × (Nat → Int32)) => post r u.1 u.2.1 u.2.2.1 u.2.2.2.1 u.2.2.2.2.1 u.2.2.2.2.2) (fun (u : Int32 × Int32 × (Nat → Int32) × Int32 × Int32 × (Nat → Int32)) (t : State) => va_P (dC, dI) vwCl [(h0, .inr (9, [.ref q0, .int u.1, .int u.2.1])), (q0, .inl (c0, 160, .inl u.2.2.1)), (h1, .inr (9, [.ref q1, .int u.2.2.2.1, .int u.2.2.2.2.1])), (q1, .inl (c1, 160, .inl u.2.2.2.2.2))] t.heap ∧ va_K (dC, dI) vwCl [(c0, .int), (c1, .int)] t ∧ va_D (va_A [(h0, .inr (9, [.ref q0, .int n0, .int m0])), (q0, .inl (c0, 160, .inl f0)), (h1, .inr (9, [.ref q1, .int n1, .int m1])), (q1, .inl (c1, 160, .inl f1))] sz) [(h0, .inr (9, [.ref q0, .int u.1, .int u.2.1])), (q0, .inl (c0, 160, .inl u.2.2.1)), (h1, .inr (9, [.ref q1, .int u.2.2.2.1, .int u.2.2.2.2.1])), (q1, .inl (c1, 160, .inl u.2.2.2.2.2))]) (va_A [(h0, .inr (9, [.ref q0, .int n0, .int m0])), (q0, .inl (c0, 160, .inl f0)), (h1, .inr (9, [.ref q1, .int n1, .int m1])), (q1, .inl (c1, 160, .inl f1))] sz)) 0 0 (va_A [(h0, .inr (9, [.ref q0, .int n0, .int m0])), (q0, .inl (c0, 160, .inl f0)), (h1, .inr (9, [.ref q1, .int n1, .int m1])), (q1, .inl (c1, 160, .inl f1))] sz) := by
  refine Met.ofW (cc := prog_16_method_14_code) (maxL := 8) (ret := (some .boolean)) (by decide) rfl ?_
  intro p e s m args below meth c s₁ B hml hv
  obtain ⟨rfl, hsz, hP, hK, hD0, hN⟩ := hv
  have hx := B.exec
  have hb := B.bytes
  have hr := B.returns
  have htw : ∀ w ∈ px_all, w.before _ s = true := fun w h => atoms_spec (ws := px_s21) B.pre w (List.mem_cons_of_mem _ h)
  have hown : s.vm.findClass "MatroidDeskModel$Num" = some m.cls := findClass_of_methodNamed B.named
  have hlocks := B.notSynchronized
  subst hsz
  have hD := hD0.self (sz := s.heap.size)
  generalize hAe : va_A [(h0, .inr (9, [.ref q0, .int n0, .int m0])), (q0, .inl (c0, 160, .inl f0)), (h1, .inr (9, [.ref q1, .int n1, .int m1])), (q1, .inl (c1, 160, .inl f1))] s.heap.size = A at hD ⊢
  have hA : ∀ q : Nat, s.heap.size ≤ q → A q := fun q h => by rw [← hAe]; exact Or.inr h
  have hS : va_S A s.heap s.heap [] := va_S.rf
  have hP : va_P (dC, dI) vwCl [(h0, .inr (9, [.ref q0, .int n0, .int m0])), (q0, .inl (c0, 160, .inl f0)), (h1, .inr (9, [.ref q1, .int n1, .int m1])), (q1, .inl (c1, 160, .inl f1))] s.heap := hP
  have hl := lv_entry ([.ref h0, .int bx, .ref h1]) (n := 8) (Nat.le_of_ble_eq_true rfl)
  rw [lg_entry_eq]
  generalize (lg_sl ([.ref h0, .int bx, .ref h1]) ++ List.replicate (8 - (lg_sl ([.ref h0, .int bx, .ref h1])).length) Slot.unset).toArray = ls at hl ⊢
  have hl : lv_has ls 8 [(0, .ref h0), (1, .int bx), (2, .ref h1)] := hl
  generalize hQ : MQ _ _ _ _ _ _ _ = Q
  have S90 : ∀ (x1 : Int32) (x3 : Int64) (x5 : Int32) (y0 : Int32) (n0 : Int32) (m0 : Int32) (f0 : Nat → Int32) (n1 : Int32) (m1 : Int32) (f1 : Nat → Int32) (H : Heap) (locs : List Loc) (ls : Array Slot), va_P (dC, dI) vwCl [(h0, .inr (9, [.ref q0, .int n0, .int m0])), (q0, .inl (c0, 160, .inl f0)), (h1, .inr (9, [.ref q1, .int n1, .int m1])), (q1, .inl (c1, 160, .inl f1))] H → va_D A [(h0, .inr (9, [.ref q0, .int n0, .int m0])), (q0, .inl (c0, 160, .inl f0)), (h1, .inr (9, [.ref q1, .int n1, .int m1])), (q1, .inl (c1, 160, .inl f1))] → va_S A s.heap H locs → lv_has ls 8 [(0, .ref h0), (1, .int x1), (2, .ref h1), (3, .long x3), (5, .int x5)] → nam_L90 post x1 x3 x5 y0 n0 m0 f0 n1 m1 f1 → W p l e (headSpec px_s21 ({ frames := 0, cells := 0, slots := 0, locals := 0 })).room s m ([.ref h0, .int bx, .ref h1]).toArray below meth c H locs 0 0 Q (F0 m 90 ls [.int y0]) := by
    intro x1 x3 x5 y0 n0 m0 f0 n1 m1 f1 H locs ls hP hD hS hl hw
    unfold nam_L90 at hw
    obtain ⟨hz9, hw⟩ := hw
    rw [← hQ]
    exact W.zret (v := y0) hx hb hr hz9 (fun t ht hW => ⟨⟨y0, (n0, m0, f0, n1, m1, f1), rfl, hw, by rw [ht]; exact hP, va_K.moved hW.alike hK, hD⟩, hS.F ht⟩) hS.2.2 px_d21_90
  have S5 : ∀ (k5 : Nat) (x1 : Int32) (x3 : Int64) (x5 : Int32) (n0 : Int32) (m0 : Int32) (f0 : Nat → Int32) (n1 : Int32) (m1 : Int32) (f1 : Nat → Int32) (H : Heap) (locs : List Loc) (ls : Array Slot), va_P (dC, dI) vwCl [(h0, .inr (9, [.ref q0, .int n0, .int m0])), (q0, .inl (c0, 160, .inl f0)), (h1, .inr (9, [.ref q1, .int n1, .int m1])), (q1, .inl (c1, 160, .inl f1))] H → va_D A [(h0, .inr (9, [.ref q0, .int n0, .int m0])), (q0, .inl (c0, 160, .inl f0)), (h1, .inr (9, [.ref q1, .int n1, .int m1])), (q1, .inl (c1, 160, .inl f1))] → va_S A s.heap H locs → lv_has ls 8 [(0, .ref h0), (1, .int x1), (2, .ref h1), (3, .long x3), (5, .int x5)] → nam_L5 post k5 x1 x3 x5 n0 m0 f0 n1 m1 f1 → W p l e (headSpec px_s21 ({ frames := 0, cells := 0, slots := 0, locals := 0 })).room s m ([.ref h0, .int bx, .ref h1]).toArray below meth c H locs 0 0 Q (F0 m 5 ls []) := by
    intro k5
    induction k5 with
    | zero => intro x1 x3 x5 n0 m0 f0 n1 m1 f1 H locs ls hP hD hS hl hw; exact False.elim hw
    | succ k5 ih5 =>
      have S72 : ∀ (x1 : Int32) (x3 : Int64) (x5 : Int32) (x6 : Int64) (y0 : Int64) (n0 : Int32) (m0 : Int32) (f0 : Nat → Int32) (n1 : Int32) (m1 : Int32) (f1 : Nat → Int32) (H : Heap) (locs : List Loc) (ls : Array Slot), va_P (dC, dI) vwCl [(h0, .inr (9, [.ref q0, .int n0, .int m0])), (q0, .inl (c0, 160, .inl f0)), (h1, .inr (9, [.ref q1, .int n1, .int m1])), (q1, .inl (c1, 160, .inl f1))] H → va_D A [(h0, .inr (9, [.ref q0, .int n0, .int m0])), (q0, .inl (c0, 160, .inl f0)), (h1, .inr (9, [.ref q1, .int n1, .int m1])), (q1, .inl (c1, 160, .inl f1))] → va_S A s.heap H locs → lv_has ls 8 [(0, .ref h0), (1, .int x1), (2, .ref h1), (3, .long x3), (5, .int x5), (6, .long x6)] → nam_L72 (nam_L5 post k5) post x1 x3 x5 x6 y0 n0 m0 f0 n1 m1 f1 → W p l e (headSpec px_s21 ({ frames := 0, cells := 0, slots := 0, locals := 0 })).room s m ([.ref h0, .int bx, .ref h1]).toArray below meth c H locs 0 0 Q (F0 m 72 ls [.long y0]) := by
        intro x1 x3 x5 x6 y0 n0 m0 f0 n1 m1 f1 H locs ls hP hD hS hl hw
        unfold nam_L72 at hw
        refine lv_lstore_n (lv' := [(3, .long y0), (0, .ref h0), (1, .int x1), (2, .ref h1), (5, .int x5), (6, .long x6)]) hx hb px_d21_72 rfl hl (by decide) rfl (fun ls hl => ?_)
        obtain ⟨z1, ez1⟩ : ∃ y : Int32, y = x5 + 1 := ⟨_, rfl⟩
        have hw := hw z1 ez1
        refine lv_iinc (v := z1) (lv' := [(5, .int z1), (3, .long y0), (0, .ref h0), (1, .int x1), (2, .ref h1), (6, .long x6)]) hx hb px_d21_73 hl (k := 4) rfl (by rw [ez1]; rfl) (by decide) rfl (fun ls hl => ?_)
        refine lv_goto (tgt := 5) hx hb px_d21_76 (by decide) ?_
        exact ih5 x1 y0 z1 n0 m0 f0 n1 m1 f1 H locs ls hP hD hS (lv_sub hl [2, 3, 4, 1, 0] rfl) hw
      have S48 : ∀ (x1 : Int32) (x3 : Int64) (x5 : Int32) (y0 : Int64) (y1 : Int64) (n0 : Int32) (m0 : Int32) (f0 : Nat → Int32) (n1 : Int32) (m1 : Int32) (f1 : Nat → Int32) (H : Heap) (locs : List Loc) (ls : Array Slot), va_P (dC, dI) vwCl [(h0, .inr (9, [.ref q0, .int n0, .int m0])), (q0, .inl (c0, 160, .inl f0)), (h1, .inr (9, [.ref q1, .int n1, .int m1])), (q1, .inl (c1, 160, .inl f1))] H → va_D A [(h0, .inr (9, [.ref q0, .int n0, .int m0])), (q0, .inl (c0, 160, .inl f0)), (h1, .inr (9, [.ref q1, .int n1, .int m1])), (q1, .inl (c1, 160, .inl f1))] → va_S A s.heap H locs → lv_has ls 8 [(0, .ref h0), (1, .int x1), (2, .ref h1), (3, .long x3), (5, .int x5)] → nam_L48 (nam_L5 post k5) post x1 x3 x5 y0 y1 n0 m0 f0 n1 m1 f1 → W p l e (headSpec px_s21 ({ frames := 0, cells := 0, slots := 0, locals := 0 })).room s m ([.ref h0, .int bx, .ref h1]).toArray below meth c H locs 0 0 Q (F0 m 48 ls [.long y0, .long y1]) := by
        intro x1 x3 x5 y0 y1 n0 m0 f0 n1 m1 f1 H locs ls hP hD hS hl hw
        unfold nam_L48 at hw
        refine lv_lsub hx hb px_d21_48 ?_
        refine lv_topl (fun z2 ez2 => ?_)
        have hw := hw z2 ez2
        refine lv_lstore (lv' := [(6, .long z2), (0, .ref h0), (1, .int x1), (2, .ref h1), (3, .long x3), (5, .int x5)]) hx hb px_d21_49 hl (by decide) rfl (fun ls hl => ?_)
        refine lv_lload hx hb px_d21_51 (lv_at hl 0 rfl) ?_
        refine lv_lconst (v := 0) hx hb px_d21_53 (by decide) ?_
        refine W.lcmp hx hb px_d21_54 ?_
        refine lv_if_ge (tgt := 71) hx hb px_d21_55 (by decide) (fun c55 => ?_) (fun c55 => ?_)
        · have hw := hw.1 c55
          refine lv_lconst (v := 0) hx hb px_d21_71 (by decide) ?_
          exact S72 x1 x3 x5 z2 0 n0 m0 f0 n1 m1 f1 H locs ls hP hD hS (lv_sub hl [1, 2, 3, 4, 5, 0] rfl) hw
        · have hw := hw.2 c55
          refine lv_ldc2 hx hb (own := "MatroidDeskModel$Num") (index := 43) (v := 65535) hown (htw _ px_w313) px_d21_58 ?_
          refine lv_lload hx hb px_d21_61 (lv_at hl 0 rfl) ?_
          refine lv_lsub hx hb px_d21_63 ?_
          refine lv_ldc2 hx hb (own := "MatroidDeskModel$Num") (index := 24) (v := 65536) hown (htw _ px_w280) px_d21_64 ?_
          refine lv_ldiv hx hb px_d21_67 (by decide +kernel) ?_
          refine lv_goto (tgt := 72) hx hb px_d21_68 (by decide) ?_
          exact S72 x1 x3 x5 z2 ((65535 - z2) / 65536) n0 m0 f0 n1 m1 f1 H locs ls hP hD hS (lv_sub hl [1, 2, 3, 4, 5, 0] rfl) hw
      intro x1 x3 x5 n0 m0 f0 n1 m1 f1 H locs ls hP hD hS hl hw
      unfold nam_L5 at hw
      refine lv_iload hx hb px_d21_5 (lv_at hl 4 rfl) ?_
      refine lv_aload_n hx hb px_d21_7 rfl (lv_at hl 2 rfl) ?_
      refine va_get (D := (dC, dI)) (ci := 9) (v := .int n1) (C := "MatroidDeskModel$Num") (T := px_T9) (N := 3) hx hb htw px_in9 hown hK hP 2 rfl rfl 1 (by decide) (htw _ px_w271) (fun _ h9 => h9) rfl px_d21_8 ?_
      refine lv_icmp_ge (tgt := 79) hx hb px_d21_11 (by decide) (fun c11 => ?_) (fun c11 => ?_)
      · have hw := hw.1 c11
        refine lv_lload_n hx hb px_d21_79 rfl (lv_at hl 3 rfl) ?_
        refine lv_lconst (v := 0) hx hb px_d21_80 (by decide) ?_
        refine W.lcmp hx hb px_d21_81 ?_
        refine lv_if_ne (tgt := 89) hx hb px_d21_82 (by decide) (fun c82 => ?_) (fun c82 => ?_)
        · have hw := hw.1 c82
          refine lv_iconst (v := 0) hx hb px_d21_89 (by decide) ?_
          exact S90 x1 x3 x5 0 n0 m0 f0 n1 m1 f1 H locs ls hP hD hS (lv_sub hl [0, 1, 2, 3, 4] rfl) hw
        · have hw := hw.2 c82
          refine lv_iconst (v := 1) hx hb px_d21_85 (by decide) ?_
          refine lv_goto (tgt := 90) hx hb px_d21_86 (by decide) ?_
          exact S90 x1 x3 x5 1 n0 m0 f0 n1 m1 f1 H locs ls hP hD hS (lv_sub hl [0, 1, 2, 3, 4] rfl) hw
      · have hw := hw.2 c11
        refine lv_aload_n hx hb px_d21_14 rfl (lv_at hl 2 rfl) ?_
        refine va_get (D := (dC, dI)) (ci := 9) (v := .ref q1) (C := "MatroidDeskModel$Num") (T := px_T9) (N := 3) hx hb htw px_in9 hown hK hP 2 rfl rfl 0 (by decide) (htw _ px_w267) (fun _ h9 => h9) rfl px_d21_15 ?_
        refine lv_iload hx hb px_d21_18 (lv_at hl 4 rfl) ?_
        obtain ⟨hi20, hw⟩ := hw
        refine va_iald hx hb hK hP 3 1 rfl rfl hi20 px_d21_20 ?_
        refine lv_i2l (v := (f1 (Int32.toNatClampNeg x5)).toInt64) hx hb px_d21_21 rfl ?_
        refine lv_lload_n hx hb px_d21_22 rfl (lv_at hl 3 rfl) ?_
        refine lv_lsub hx hb px_d21_23 ?_
        refine lv_iload hx hb px_d21_24 (lv_at hl 4 rfl) ?_
        refine lv_aload_n hx hb px_d21_26 rfl (lv_at hl 0 rfl) ?_
        refine va_get (D := (dC, dI)) (ci := 9) (v := .int n0) (C := "MatroidDeskModel$Num") (T := px_T9) (N := 3) hx hb htw px_in9 hown hK hP 0 rfl rfl 1 (by decide) (htw _ px_w271) (fun _ h9 => h9) rfl px_d21_27 ?_
        refine lv_icmp_ge (tgt := 47) hx hb px_d21_30 (by decide) (fun c30 => ?_) (fun c30 => ?_)
        · have hw := hw.1 c30
          refine lv_lconst (v := 0) hx hb px_d21_47 (by decide) ?_
          exact S48 x1 x3 x5 0 (((f1 (Int32.toNatClampNeg x5)).toInt64) - x3) n0 m0 f0 n1 m1 f1 H locs ls hP hD hS (lv_sub hl [0, 1, 2, 3, 4] rfl) hw
        · have hw := hw.2 c30
          refine lv_aload_n hx hb px_d21_33 rfl (lv_at hl 0 rfl) ?_
          refine va_get (D := (dC, dI)) (ci := 9) (v := .ref q0) (C := "MatroidDeskModel$Num") (T := px_T9) (N := 3) hx hb htw px_in9 hown hK hP 0 rfl rfl 0 (by decide) (htw _ px_w267) (fun _ h9 => h9) rfl px_d21_34 ?_
          refine lv_iload hx hb px_d21_37 (lv_at hl 4 rfl) ?_
          obtain ⟨hi39, hw⟩ := hw
          refine va_iald hx hb hK hP 1 0 rfl rfl hi39 px_d21_39 ?_
          refine lv_i2l (v := (f0 (Int32.toNatClampNeg x5)).toInt64) hx hb px_d21_40 rfl ?_
          refine lv_iload_n hx hb px_d21_41 rfl (lv_at hl 1 rfl) ?_
          refine lv_i2l (v := x1.toInt64) hx hb px_d21_42 rfl ?_
          refine lv_lmul hx hb px_d21_43 ?_
          refine lv_goto (tgt := 48) hx hb px_d21_44 (by decide) ?_
          exact S48 x1 x3 x5 (((f0 (Int32.toNatClampNeg x5)).toInt64) * x1.toInt64) (((f1 (Int32.toNatClampNeg x5)).toInt64) - x3) n0 m0 f0 n1 m1 f1 H locs ls hP hD hS (lv_sub hl [0, 1, 2, 3, 4] rfl) hw
  unfold nam_wp at hw
  have hS0 := hS
  obtain ⟨H, hH9⟩ : ∃ z, z = s.heap := ⟨_, rfl⟩
  have hP : va_P (dC, dI) vwCl [(h0, .inr (9, [.ref q0, .int n0, .int m0])), (q0, .inl (c0, 160, .inl f0)), (h1, .inr (9, [.ref q1, .int n1, .int m1])), (q1, .inl (c1, 160, .inl f1))] H := by rw [hH9]; exact hP
  obtain ⟨locs, hlo9⟩ : ∃ z : List Loc, z = [] := ⟨_, rfl⟩
  have hS : va_S A s.heap H locs := by rw [hH9, hlo9]; exact hS
  suffices hG : W p l e (headSpec px_s21 ({ frames := 0, cells := 0, slots := 0, locals := 0 })).room s m ([.ref h0, .int bx, .ref h1]).toArray below meth c H locs 0 0 Q (F0 m 0 ls []) by rw [hH9, hlo9] at hG; exact hG
  refine lv_lconst (v := 0) hx hb px_d21_0 (by decide) ?_
  refine lv_lstore_n (lv' := [(3, .long 0), (0, .ref h0), (1, .int bx), (2, .ref h1)]) hx hb px_d21_1 rfl hl (by decide) rfl (fun ls hl => ?_)
  refine lv_iconst (v := 0) hx hb px_d21_2 (by decide) ?_
  refine lv_istore (lv' := [(5, .int 0), (3, .long 0), (0, .ref h0), (1, .int bx), (2, .ref h1)]) hx hb px_d21_3 hl (by decide) rfl (fun ls hl => ?_)
  obtain ⟨k9, hw⟩ := hw
  exact S5 k9 bx 0 0 n0 m0 f0 n1 m1 f1 H locs ls hP hD hS (lv_sub hl [2, 3, 4, 1, 0] rfl) hw

