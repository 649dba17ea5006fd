/-! MatroidDesk$Product.cutTo(I)V -/
def w168_wp (post : Nat → Nat → Int32 → Int32 → (Nat → Int32) → (Nat → Int32) → Prop) (a1x : Int32) (q_b : Nat) (l_b : Nat) (p_length : Int32) (p_full : Int32) (g_b : Nat → Int32) (g_d : Nat → Int32) : Prop := post q_b l_b a1x 0 g_b g_d
set_option maxHeartbeats 8000000 in
set_option maxRecDepth 100000 in
theorem w168_met (l : Launch) (dC : Nat → ClassId) (dI : Nat → Nat → Nat) (sz : Nat) (hp : Nat) (q_d : Nat) (c_b : ClassId) (a1x : Int32) (q_b : Nat) (l_b : Nat) (p_length : Int32) (p_full : Int32) (g_b : Nat → Int32) (g_d : Nat → Int32) (post : Nat → Nat → Int32 → Int32 → (Nat → Int32) → (Nat → Int32) → Prop) (hw : w168_wp post a1x q_b l_b p_length p_full g_b g_d) : Met l px_y168 px_s168 ({ frames := 0, cells := 0, slots := 0, locals := 0 }) (va_Pc [.ref hp, .int a1x] (fun U => U.heap.size = sz ∧ va_P (dC, dI) vwCl [(hp, .inr (7, [.ref q_b, .ref q_d, .int p_length, .int p_full])), (q_b, .inl (c_b, l_b, .inl g_b)), (q_d, .inl (c_b, 48, .inl g_d))] U.heap ∧ va_K (dC, dI) vwCl [(c_b, .byte)] U ∧ va_D (fun _ => True) [(hp, .inr (7, [.ref q_b, .ref q_d, .int p_length, .int p_full])), (q_b, .inl (c_b, l_b, .inl g_b)), (q_d, .inl (c_b, 48, .inl g_d))] ∧ px_N U)) (va_Qv (fun (u : Nat × Nat × Int32 × Int32 × (Nat → Int32) × (Nat → Int32)) => post u.1 u.2.1 u.2.2.1 u.2.2.2.1 u.2.2.2.2.1 u.2.2.2.2.2) (fun (u : Nat × Nat × Int32 × Int32 × (Nat → Int32) × (Nat → Int32)) (t : State) => va_P (dC, dI) vwCl [(hp, .inr (7, [.ref u.1, .ref q_d, .int u.2.2.1, .int u.2.2.2.1])), (u.1, .inl (c_b, u.2.1, .inl u.2.2.2.2.1)), (q_d, .inl (c_b, 48, .inl u.2.2.2.2.2))] t.heap ∧ va_K (dC, dI) vwCl [(c_b, .byte)] t ∧ va_D (va_A [(hp, .inr (7, [.ref q_b, .ref q_d, .int p_length, .int p_full])), (q_b, .inl (c_b, l_b, .inl g_b)), (q_d, .inl (c_b, 48, .inl g_d))] sz) [(hp, .inr (7, [.ref u.1, .ref q_d, .int u.2.2.1, .int u.2.2.2.1])), (u.1, .inl (c_b, u.2.1, .inl u.2.2.2.2.1)), (q_d, .inl (c_b, 48, .inl u.2.2.2.2.2))]) (va_A [(hp, .inr (7, [.ref q_b, .ref q_d, .int p_length, .int p_full])), (q_b, .inl (c_b, l_b, .inl g_b)), (q_d, .inl (c_b, 48, .inl g_d))] sz)) 0 0 (va_A [(hp, .inr (7, [.ref q_b, .ref q_d, .int p_length, .int p_full])), (q_b, .inl (c_b, l_b, .inl g_b)), (q_d, .inl (c_b, 48, .inl g_d))] sz) := by
  refine Met.ofW (cc := prog_7_method_2_code) (maxL := 2) (ret := none) (by decide) rfl ?_
  intro p e s m args below meth c s₁ B hml hv
  obtain ⟨rfl, hsz, hP, hK, hD0, hN⟩ := hv
  have hx := B.exec
  have hb := B.bytes
  have hr := B.returns
  have htw : ∀ w ∈ px_all, w.before _ s = true := fun w h => atoms_spec (ws := px_s168) B.pre w (List.mem_cons_of_mem _ h)
  have hown : s.vm.findClass "MatroidDesk$Product" = some m.cls := findClass_of_methodNamed B.named
  have hlocks := B.notSynchronized
  subst hsz
  have hD := hD0.self (sz := s.heap.size)
  generalize hAe : va_A [(hp, .inr (7, [.ref q_b, .ref q_d, .int p_length, .int p_full])), (q_b, .inl (c_b, l_b, .inl g_b)), (q_d, .inl (c_b, 48, .inl g_d))] s.heap.size = A at hD ⊢
  have hA : ∀ q : Nat, s.heap.size ≤ q → A q := fun q h => by rw [← hAe]; exact Or.inr h
  have hS : va_S A s.heap s.heap [] := va_S.rf
  have hP : va_P (dC, dI) vwCl [(hp, .inr (7, [.ref q_b, .ref q_d, .int p_length, .int p_full])), (q_b, .inl (c_b, l_b, .inl g_b)), (q_d, .inl (c_b, 48, .inl g_d))] s.heap := hP
  have hl := lv_entry ([.ref hp, .int a1x]) (n := 2) (Nat.le_of_ble_eq_true rfl)
  rw [lg_entry_eq]
  generalize (lg_sl ([.ref hp, .int a1x]) ++ List.replicate (2 - (lg_sl ([.ref hp, .int a1x])).length) Slot.unset).toArray = ls at hl ⊢
  have hl : lv_has ls 2 [(0, .ref hp), (1, .int a1x)] := hl
  generalize hQ : MQ _ _ _ _ _ _ _ = Q
  unfold w168_wp at hw
  have hS0 := hS
  obtain ⟨H, hH9⟩ : ∃ z, z = s.heap := ⟨_, rfl⟩
  have hP : va_P (dC, dI) vwCl [(hp, .inr (7, [.ref q_b, .ref q_d, .int p_length, .int p_full])), (q_b, .inl (c_b, l_b, .inl g_b)), (q_d, .inl (c_b, 48, .inl g_d))] H := by rw [hH9]; exact hP
  obtain ⟨locs, hlo9⟩ : ∃ z : List Loc, z = [] := ⟨_, rfl⟩
  have hS : va_S A s.heap H locs := by rw [hH9, hlo9]; exact hS
  suffices hG : W p l e (headSpec px_s168 ({ frames := 0, cells := 0, slots := 0, locals := 0 })).room s m ([.ref hp, .int a1x]).toArray below meth c H locs 0 0 Q (F0 m 0 ls []) by rw [hH9, hlo9] at hG; exact hG
  refine lv_aload_n hx hb px_d168_0 rfl (lv_at hl 0 rfl) ?_
  refine lv_iload_n hx hb px_d168_1 rfl (lv_at hl 1 rfl) ?_
  refine va_put (D := (dC, dI)) (ci := 7) (v := .int a1x) (ty := .int) (C := "MatroidDesk$Product") (T := px_T7) (N := 4) hx hb htw px_in7 px_ty7 px_tyok7 px_nm7 hown hK hP hD hS 0 rfl rfl 2 (by decide) (htw _ px_w959) (fun _ h9 => h9) rfl (by decide +kernel) rfl rfl (Nat.le_of_ble_eq_true rfl) px_d168_2 (fun H locs hP hD hS => ?_)
  have hP : va_P (dC, dI) vwCl [(hp, .inr (7, [.ref q_b, .ref q_d, .int a1x, .int p_full])), (q_b, .inl (c_b, l_b, .inl g_b)), (q_d, .inl (c_b, 48, .inl g_d))] H := hP
  have hD : va_D A [(hp, .inr (7, [.ref q_b, .ref q_d, .int a1x, .int p_full])), (q_b, .inl (c_b, l_b, .inl g_b)), (q_d, .inl (c_b, 48, .inl g_d))] := hD
  refine lv_aload_n hx hb px_d168_5 rfl (lv_at hl 0 rfl) ?_
  refine lv_iconst (v := 0) hx hb px_d168_6 (by decide) ?_
  refine va_put (D := (dC, dI)) (ci := 7) (v := .int 0) (ty := .boolean) (C := "MatroidDesk$Product") (T := px_T7) (N := 4) hx hb htw px_in7 px_ty7 px_tyok7 px_nm7 hown hK hP hD hS 0 rfl rfl 3 (by decide) (htw _ px_w960) (fun _ h9 => h9) rfl (by decide +kernel) (by decide +kernel) (by decide +kernel) (Nat.le_of_ble_eq_true rfl) px_d168_7 (fun H locs hP hD hS => ?_)
  have hP : va_P (dC, dI) vwCl [(hp, .inr (7, [.ref q_b, .ref q_d, .int a1x, .int 0])), (q_b, .inl (c_b, l_b, .inl g_b)), (q_d, .inl (c_b, 48, .inl g_d))] H := hP
  have hD : va_D A [(hp, .inr (7, [.ref q_b, .ref q_d, .int a1x, .int 0])), (q_b, .inl (c_b, l_b, .inl g_b)), (q_d, .inl (c_b, 48, .inl g_d))] := hD
  rw [← hQ]
  exact W.vret hx hb hr (fun t ht hW => ⟨⟨(q_b, l_b, a1x, 0, g_b, g_d), rfl, hw, by rw [ht]; exact hP, va_K.moved hW.alike hK, hD⟩, hS.F ht⟩) hS.2.2 px_d168_10

/-! MatroidDesk$Product.put(I)V -/
def w270_L44 (mc : Nat) (ms : Nat) (post : Nat → Nat → Int32 → Int32 → (Nat → Int32) → (Nat → Int32) → Prop) (x1 : Int32) (q_b : Nat) (l_b : Nat) (p_length : Int32) (p_full : Int32) (g_b : Nat → Int32) (g_d : Nat → Int32) (kc : Nat) (ks : Nat) : Prop := vp_in p_length l_b ∧ (∀ z1 : Int32, z1 = p_length + 1 → post q_b l_b z1 p_full (upd g_b (Int32.toNatClampNeg p_length) (vp_nar .byte x1.toInt8.toInt32)) g_d)
def w270_wp (mc : Nat) (ms : Nat) (post : Nat → Nat → Int32 → Int32 → (Nat → Int32) → (Nat → Int32) → Prop) (a1x : Int32) (q_b : Nat) (l_b : Nat) (p_length : Int32) (p_full : Int32) (g_b : Nat → Int32) (g_d : Nat → Int32) : Prop := (p_length < 65536 → (¬ p_length = (nI l_b) → w270_L44 mc ms post a1x q_b l_b p_length p_full g_b g_d 0 0) ∧ (p_length = (nI l_b) → ∃ m38_4 s38_4 : Nat, 0 + m38_4 ≤ mc ∧ 0 + s38_4 ≤ ms ∧ (w200_wp l_b m38_4 s38_4 (fun nq38_3 nn38_3 nf38_3 v2 => w270_L44 mc ms post a1x nq38_3 nn38_3 p_length p_full nf38_3 g_d (0 + m38_4) (0 + s38_4)) (2 * p_length) g_b))) ∧ (¬ p_length < 65536 → post q_b l_b p_length 1 g_b g_d)
set_option maxHeartbeats 8000000 in
set_option maxRecDepth 100000 in
theorem w270_met (l : Launch) (dC : Nat → ClassId) (dI : Nat → Nat → Nat) (sz : Nat) (hp : Nat) (q_d : Nat) (c_b : ClassId) (mc : Nat) (ms : Nat) (a1x : Int32) (q_b : Nat) (l_b : Nat) (p_length : Int32) (p_full : Int32) (g_b : Nat → Int32) (g_d : Nat → Int32) (post : Nat → Nat → Int32 → Int32 → (Nat → Int32) → (Nat → Int32) → Prop) (hw : w270_wp mc ms post a1x q_b l_b p_length p_full g_b g_d) : Met l px_y270 px_s270 ({ frames := 2, cells := mc, slots := ms, locals := 43 }) (va_Pc [.ref hp, .int a1x] (fun U => U.heap.size = sz ∧ va_P (dC, dI) vwCl [(hp, .inr (7, [.ref q_b, .ref q_d, .int p_length, .int p_full])), (q_b, .inl (c_b, l_b, .inl g_b)), (q_d, .inl (c_b, 48, .inl g_d))] U.heap ∧ va_K (dC, dI) vwCl [(c_b, .byte)] U ∧ va_D (fun _ => True) [(hp, .inr (7, [.ref q_b, .ref q_d, .int p_length, .int p_full])), (q_b, .inl (c_b, l_b, .inl g_b)), (q_d, .inl (c_b, 48, .inl g_d))] ∧ px_N U)) (va_Qv (fun (u : Nat × Nat × Int32 × Int32 × (Nat → Int32) × (Nat → Int32)) => post u.1 u.2.1 u.2.2.1 u.2.2.2.1 u.2.2.2.2.1 u.2.2.2.2.2) (fun (u : Nat × Nat × Int32 × Int32 × (Nat → Int32) × (Nat → Int32)) (t : State) => va_P (dC, dI) vwCl [(hp, .inr (7, [.ref u.1, .ref q_d, .int u.2.2.1, .int u.2.2.2.1])), (u.1, .inl (c_b, u.2.1, .inl u.2.2.2.2.1)), (q_d, .inl (c_b, 48, .inl u.2.2.2.2.2))] t.heap ∧ va_K (dC, dI) vwCl [(c_b, .byte)] t ∧ va_D (va_A [(hp, .inr (7, [.ref q_b, .ref q_d, .int p_length, .int p_full])), (q_b, .inl (c_b, l_b, .inl g_b)), (q_d, .inl (c_b, 48, .inl g_d))] sz) [(hp, .inr (7, [.ref u.1, .ref q_d, .int u.2.2.1, .int u.2.2.2.1])), (u.1, .inl (c_b, u.2.1, .inl u.2.2.2.2.1)), (q_d, .inl (c_b, 48, .inl u.2.2.2.2.2))]) (va_A [(hp, .inr (7, [.ref q_b, .ref q_d, .int p_length, .int p_full])), (q_b, .inl (c_b, l_b, .inl g_b)), (q_d, .inl (c_b, 48, .inl g_d))] sz)) mc ms (va_A [(hp, .inr (7, [.ref q_b, .ref q_d, .int p_length, .int p_full])), (q_b, .inl (c_b, l_b, .inl g_b)), (q_d, .inl (c_b, 48, .inl g_d))] sz) := by
  refine Met.ofW (cc := prog_7_method_3_code) (maxL := 2) (ret := none) (by decide) rfl ?_
  intro p e s m args below meth c s₁ B hml hv
  obtain ⟨rfl, hsz, hP, hK, hD0, hN⟩ := hv
  have hx := B.exec
  have hb := B.bytes
  have hr := B.returns
  have htw : ∀ w ∈ px_all, w.before _ s = true := fun w h => atoms_spec (ws := px_s270) B.pre w (List.mem_cons_of_mem _ h)
  have hown : s.vm.findClass "MatroidDesk$Product" = some m.cls := findClass_of_methodNamed B.named
  have hlocks := B.notSynchronized
  subst hsz
  have hD := hD0.self (sz := s.heap.size)
  generalize hAe : va_A [(hp, .inr (7, [.ref q_b, .ref q_d, .int p_length, .int p_full])), (q_b, .inl (c_b, l_b, .inl g_b)), (q_d, .inl (c_b, 48, .inl g_d))] s.heap.size = A at hD ⊢
  have hA : ∀ q : Nat, s.heap.size ≤ q → A q := fun q h => by rw [← hAe]; exact Or.inr h
  have hS : va_S A s.heap s.heap [] := va_S.rf
  have hP : va_P (dC, dI) vwCl [(hp, .inr (7, [.ref q_b, .ref q_d, .int p_length, .int p_full])), (q_b, .inl (c_b, l_b, .inl g_b)), (q_d, .inl (c_b, 48, .inl g_d))] s.heap := hP
  have hl := lv_entry ([.ref hp, .int a1x]) (n := 2) (Nat.le_of_ble_eq_true rfl)
  rw [lg_entry_eq]
  generalize (lg_sl ([.ref hp, .int a1x]) ++ List.replicate (2 - (lg_sl ([.ref hp, .int a1x])).length) Slot.unset).toArray = ls at hl ⊢
  have hl : lv_has ls 2 [(0, .ref hp), (1, .int a1x)] := hl
  generalize hQ : MQ _ _ _ _ _ _ _ = Q
  have S44 : ∀ (x1 : Int32) (q_b : Nat) (l_b : Nat) (p_length : Int32) (p_full : Int32) (g_b : Nat → Int32) (g_d : Nat → Int32) (kc : Nat) (ks : Nat) (H : Heap) (locs : List Loc) (ls : Array Slot), kc ≤ mc → ks ≤ ms → va_P (dC, dI) vwCl [(hp, .inr (7, [.ref q_b, .ref q_d, .int p_length, .int p_full])), (q_b, .inl (c_b, l_b, .inl g_b)), (q_d, .inl (c_b, 48, .inl g_d))] H → va_D A [(hp, .inr (7, [.ref q_b, .ref q_d, .int p_length, .int p_full])), (q_b, .inl (c_b, l_b, .inl g_b)), (q_d, .inl (c_b, 48, .inl g_d))] → va_S A s.heap H locs → lv_has ls 2 [(0, .ref hp), (1, .int x1)] → w270_L44 mc ms post x1 q_b l_b p_length p_full g_b g_d kc ks → W p l e (headSpec px_s270 ({ frames := 2, cells := mc, slots := ms, locals := 43 })).room s m ([.ref hp, .int a1x]).toArray below meth c H locs kc ks Q (F0 m 44 ls []) := by
    intro x1 q_b l_b p_length p_full g_b g_d kc ks H locs ls hkc hks hP hD hS hl hw
    unfold w270_L44 at hw
    refine lv_aload_n hx hb px_d270_44 rfl (lv_at hl 0 rfl) ?_
    refine va_get (D := (dC, dI)) (ci := 7) (v := .ref q_b) (C := "MatroidDesk$Product") (T := px_T7) (N := 4) hx hb htw px_in7 hown hK hP 0 rfl rfl 0 (by decide) (htw _ px_w232) (fun _ h9 => h9) rfl px_d270_45 ?_
    refine lv_aload_n hx hb px_d270_48 rfl (lv_at hl 0 rfl) ?_
    refine va_get (D := (dC, dI)) (ci := 7) (v := .int p_length) (C := "MatroidDesk$Product") (T := px_T7) (N := 4) hx hb htw px_in7 hown hK hP 0 rfl rfl 2 (by decide) (htw _ px_w959) (fun _ h9 => h9) rfl px_d270_49 ?_
    refine lv_iload_n hx hb px_d270_52 rfl (lv_at hl 1 rfl) ?_
    refine lv_i2b (v := x1.toInt8.toInt32) hx hb px_d270_53 rfl ?_
    obtain ⟨hi54, hw⟩ := hw
    refine va_bast hx hb hK hP hD hS 1 0 rfl rfl hi54 px_d270_54 (fun H locs hP hD hS => ?_)
    have hP : va_P (dC, dI) vwCl [(hp, .inr (7, [.ref q_b, .ref q_d, .int p_length, .int p_full])), (q_b, .inl (c_b, l_b, .inl (upd g_b (Int32.toNatClampNeg p_length) (vp_nar .byte x1.toInt8.toInt32)))), (q_d, .inl (c_b, 48, .inl g_d))] H := hP
    have hD : va_D A [(hp, .inr (7, [.ref q_b, .ref q_d, .int p_length, .int p_full])), (q_b, .inl (c_b, l_b, .inl (upd g_b (Int32.toNatClampNeg p_length) (vp_nar .byte x1.toInt8.toInt32)))), (q_d, .inl (c_b, 48, .inl g_d))] := hD
    refine lv_aload_n hx hb px_d270_55 rfl (lv_at hl 0 rfl) ?_
    refine lv_dup hx hb px_d270_56 rfl ?_
    refine va_get (D := (dC, dI)) (ci := 7) (v := .int p_length) (C := "MatroidDesk$Product") (T := px_T7) (N := 4) hx hb htw px_in7 hown hK hP 0 rfl rfl 2 (by decide) (htw _ px_w959) (fun _ h9 => h9) rfl px_d270_57 ?_
    refine lv_iconst (v := 1) hx hb px_d270_60 (by decide) ?_
    refine lv_iadd hx hb px_d270_61 ?_
    refine lv_topi (fun z1 ez1 => ?_)
    have hw := hw z1 ez1
    refine va_put (D := (dC, dI)) (ci := 7) (v := .int z1) (ty := .int) (C := "MatroidDesk$Product") (T := px_T7) (N := 4) hx hb htw px_in7 px_ty7 px_tyok7 px_nm7 hown hK hP hD hS 0 rfl rfl 2 (by decide) (htw _ px_w959) (fun _ h9 => h9) rfl (by decide +kernel) rfl rfl (Nat.le_of_ble_eq_true rfl) px_d270_62 (fun H locs hP hD hS => ?_)
    have hP : va_P (dC, dI) vwCl [(hp, .inr (7, [.ref q_b, .ref q_d, .int z1, .int p_full])), (q_b, .inl (c_b, l_b, .inl (upd g_b (Int32.toNatClampNeg p_length) (vp_nar .byte x1.toInt8.toInt32)))), (q_d, .inl (c_b, 48, .inl g_d))] H := hP
    have hD : va_D A [(hp, .inr (7, [.ref q_b, .ref q_d, .int z1, .int p_full])), (q_b, .inl (c_b, l_b, .inl (upd g_b (Int32.toNatClampNeg p_length) (vp_nar .byte x1.toInt8.toInt32)))), (q_d, .inl (c_b, 48, .inl g_d))] := hD
    refine W.widen (k := mc) (n := ms) hkc hks ?_
    rw [← hQ]
    exact W.vret hx hb hr (fun t ht hW => ⟨⟨(q_b, l_b, z1, p_full, upd g_b (Int32.toNatClampNeg p_length) (vp_nar .byte x1.toInt8.toInt32), g_d), rfl, hw, by rw [ht]; exact hP, va_K.moved hW.alike hK, hD⟩, hS.F ht⟩) hS.2.2 px_d270_65
  unfold w270_wp at hw
  have hS0 := hS
  obtain ⟨H, hH9⟩ : ∃ z, z = s.heap := ⟨_, rfl⟩
  have hP : va_P (dC, dI) vwCl [(hp, .inr (7, [.ref q_b, .ref q_d, .int p_length, .int p_full])), (q_b, .inl (c_b, l_b, .inl g_b)), (q_d, .inl (c_b, 48, .inl g_d))] H := by rw [hH9]; exact hP
  obtain ⟨locs, hlo9⟩ : ∃ z : List Loc, z = [] := ⟨_, rfl⟩
  have hS : va_S A s.heap H locs := by rw [hH9, hlo9]; exact hS
  suffices hG : W p l e (headSpec px_s270 ({ frames := 2, cells := mc, slots := ms, locals := 43 })).room s m ([.ref hp, .int a1x]).toArray below meth c H locs 0 0 Q (F0 m 0 ls []) by rw [hH9, hlo9] at hG; exact hG
  refine lv_aload_n hx hb px_d270_0 rfl (lv_at hl 0 rfl) ?_
  refine va_get (D := (dC, dI)) (ci := 7) (v := .int p_length) (C := "MatroidDesk$Product") (T := px_T7) (N := 4) hx hb htw px_in7 hown hK hP 0 rfl rfl 2 (by decide) (htw _ px_w959) (fun _ h9 => h9) rfl px_d270_1 ?_
  refine lv_ldc hx hb (own := "MatroidDesk$Product") (index := 26) (v := 65536) hown (htw _ px_w1380) px_d270_4 ?_
  refine lv_icmp_lt (tgt := 15) hx hb px_d270_6 (by decide) (fun c6 => ?_) (fun c6 => ?_)
  · have hw := hw.1 c6
    refine lv_aload_n hx hb px_d270_15 rfl (lv_at hl 0 rfl) ?_
    refine va_get (D := (dC, dI)) (ci := 7) (v := .int p_length) (C := "MatroidDesk$Product") (T := px_T7) (N := 4) hx hb htw px_in7 hown hK hP 0 rfl rfl 2 (by decide) (htw _ px_w959) (fun _ h9 => h9) rfl px_d270_16 ?_
    refine lv_aload_n hx hb px_d270_19 rfl (lv_at hl 0 rfl) ?_
    refine va_get (D := (dC, dI)) (ci := 7) (v := .ref q_b) (C := "MatroidDesk$Product") (T := px_T7) (N := 4) hx hb htw px_in7 hown hK hP 0 rfl rfl 0 (by decide) (htw _ px_w232) (fun _ h9 => h9) rfl px_d270_20 ?_
    refine va_alen (v := nI l_b) hx hb hK hP 1 0 rfl rfl rfl px_d270_23 ?_
    refine lv_icmp_ne (tgt := 44) hx hb px_d270_24 (by decide) (fun c24 => ?_) (fun c24 => ?_)
    · have hw := hw.1 c24
      exact S44 a1x q_b l_b p_length p_full g_b g_d 0 0 H locs ls (Nat.zero_le mc) (Nat.zero_le ms) hP hD hS (lv_sub hl [0, 1] rfl) hw
    · have hw := hw.2 c24
      refine lv_aload_n hx hb px_d270_27 rfl (lv_at hl 0 rfl) ?_
      refine lv_aload_n hx hb px_d270_28 rfl (lv_at hl 0 rfl) ?_
      refine va_get (D := (dC, dI)) (ci := 7) (v := .ref q_b) (C := "MatroidDesk$Product") (T := px_T7) (N := 4) hx hb htw px_in7 hown hK hP 0 rfl rfl 0 (by decide) (htw _ px_w232) (fun _ h9 => h9) rfl px_d270_29 ?_
      refine lv_iconst (v := 2) hx hb px_d270_32 (by decide) ?_
      refine lv_aload_n hx hb px_d270_33 rfl (lv_at hl 0 rfl) ?_
      refine va_get (D := (dC, dI)) (ci := 7) (v := .int p_length) (C := "MatroidDesk$Product") (T := px_T7) (N := 4) hx hb htw px_in7 hown hK hP 0 rfl rfl 2 (by decide) (htw _ px_w959) (fun _ h9 => h9) rfl px_d270_34 ?_
      refine lv_imul hx hb px_d270_37 ?_
      obtain ⟨m38_4, s38_4, hm38_4, hs38_4, hw⟩ := hw
      have hPc := hP.sub (ws' := [(q_b, .inl (c_b, l_b, .inl g_b))]) [1] rfl
      have hDc := hD.sub (ws' := [(q_b, .inl (c_b, l_b, .inl g_b))]) [1] (by decide) rfl
      have hFc := va_free (wc := [(q_b, .inl (c_b, l_b, .inl g_b))]) hD hS hA [1] rfl
      have hKc := hK.sub (tys' := [(c_b, .byte)]) [0] rfl
      refine va_callq (va_runS (As := [.ref q_b, .int (2 * p_length)]) (rest := [.ref hp]) ⟨hx, hb, hml, hown, htw⟩ (w200_met l dC dI H.size q_b l_b c_b m38_4 s38_4 (2 * p_length) g_b _ hw) (va_cwS 2 htw (px_gs2 px_w1381 px_w1110 px_w1752 px_g200) rfl rfl rfl (by decide +kernel) ⟨Nat.le_of_ble_eq_true rfl, Nat.le_of_ble_eq_true rfl⟩) ⟨fun a U g mk q => by obtain ⟨q0, q1, qP, qK, qD, qN⟩ := q; exact ⟨q0, q1, qP, va_K.moved (u := U) (U := U.calling g mk a) (Vm.Alike.refl U.vm) qK, qD, qN.same rfl⟩, fun U hU hW => ⟨rfl, by rw [hU], by rw [hU]; exact hPc, va_K.moved hW.alike hKc, hDc.weaken (fun _ _ _ _ => trivial), hN.warm hW⟩⟩ rfl rfl hl.1 rfl (lv_room (Nat.le_of_ble_eq_true rfl)) px_d270_38 ⟨hm38_4, hs38_4⟩) hS (fun q _ h => hFc q h) hFc (fun r9 u t H1 locs ht hvm hw hB hz1 hk1 hS => ?_)
      obtain ⟨nq38_3, nn38_3, nf38_3, v2⟩ := u
      obtain ⟨hr9, hw⟩ := hw
      subst hr9
      obtain ⟨hP1, hK1, hD1⟩ := hB
      rw [ht] at hP1
      obtain ⟨hP, hD⟩ := va_join (wr := [(hp, .inr (7, [.ref q_b, .ref q_d, .int p_length, .int p_full])), (q_d, .inl (c_b, 48, .inl g_d))]) (w1 := [(q_b, .inl (c_b, l_b, .inl v2)), (nq38_3, .inl (c_b, nn38_3, .inl nf38_3))]) hP hD [1] [0, 2] rfl rfl (by decide) (by decide) hk1 hFc hP1 hD1
      generalize H1 = H at hP hS ⊢
      have hP : va_P (dC, dI) vwCl [(hp, .inr (7, [.ref q_b, .ref q_d, .int p_length, .int p_full])), (q_d, .inl (c_b, 48, .inl g_d)), (q_b, .inl (c_b, l_b, .inl v2)), (nq38_3, .inl (c_b, nn38_3, .inl nf38_3))] H := hP
      have hD : va_D A [(hp, .inr (7, [.ref q_b, .ref q_d, .int p_length, .int p_full])), (q_d, .inl (c_b, 48, .inl g_d)), (q_b, .inl (c_b, l_b, .inl v2)), (nq38_3, .inl (c_b, nn38_3, .inl nf38_3))] := hD
      refine W.eq (g2 := F0 m 41 ls (.ref nq38_3 :: [.ref hp])) rfl ?_
      have hP := hP.sub (ws' := [(hp, .inr (7, [.ref q_b, .ref q_d, .int p_length, .int p_full])), (q_b, .inl (c_b, l_b, .inl v2)), (q_d, .inl (c_b, 48, .inl g_d)), (nq38_3, .inl (c_b, nn38_3, .inl nf38_3))]) [0, 2, 1, 3] rfl
      have hD := hD.sub (ws' := [(hp, .inr (7, [.ref q_b, .ref q_d, .int p_length, .int p_full])), (q_b, .inl (c_b, l_b, .inl v2)), (q_d, .inl (c_b, 48, .inl g_d)), (nq38_3, .inl (c_b, nn38_3, .inl nf38_3))]) [0, 2, 1, 3] (by decide) rfl
      refine va_put (D := (dC, dI)) (ci := 7) (v := .ref nq38_3) (ty := (.array .byte)) (C := "MatroidDesk$Product") (T := px_T7) (N := 4) hx hb htw px_in7 px_ty7 px_tyok7 px_nm7 hown hK hP hD hS 0 rfl rfl 0 (by decide) (htw _ px_w232) (fun _ h9 => h9) rfl (by decide +kernel) rfl rfl (Nat.le_of_ble_eq_true rfl) px_d270_41 (fun H locs hP hD hS => ?_)
      have hP : va_P (dC, dI) vwCl [(hp, .inr (7, [.ref nq38_3, .ref q_d, .int p_length, .int p_full])), (q_b, .inl (c_b, l_b, .inl v2)), (q_d, .inl (c_b, 48, .inl g_d)), (nq38_3, .inl (c_b, nn38_3, .inl nf38_3))] H := hP
      have hD : va_D A [(hp, .inr (7, [.ref nq38_3, .ref q_d, .int p_length, .int p_full])), (q_b, .inl (c_b, l_b, .inl v2)), (q_d, .inl (c_b, 48, .inl g_d)), (nq38_3, .inl (c_b, nn38_3, .inl nf38_3))] := hD
      have hP := hP.sub (ws' := [(hp, .inr (7, [.ref nq38_3, .ref q_d, .int p_length, .int p_full])), (nq38_3, .inl (c_b, nn38_3, .inl nf38_3)), (q_d, .inl (c_b, 48, .inl g_d))]) [0, 3, 2] rfl
      have hD := hD.sub (ws' := [(hp, .inr (7, [.ref nq38_3, .ref q_d, .int p_length, .int p_full])), (nq38_3, .inl (c_b, nn38_3, .inl nf38_3)), (q_d, .inl (c_b, 48, .inl g_d))]) [0, 3, 2] (by decide) rfl
      exact S44 a1x nq38_3 nn38_3 p_length p_full nf38_3 g_d (0 + m38_4) (0 + s38_4) H locs ls hm38_4 hs38_4 hP hD hS (lv_sub hl [0, 1] rfl) hw
  · have hw := hw.2 c6
    refine lv_aload_n hx hb px_d270_9 rfl (lv_at hl 0 rfl) ?_
    refine lv_iconst (v := 1) hx hb px_d270_10 (by decide) ?_
    refine va_put (D := (dC, dI)) (ci := 7) (v := .int 1) (ty := .boolean) (C := "MatroidDesk$Product") (T := px_T7) (N := 4) hx hb htw px_in7 px_ty7 px_tyok7 px_nm7 hown hK hP hD hS 0 rfl rfl 3 (by decide) (htw _ px_w960) (fun _ h9 => h9) rfl (by decide +kernel) (by decide +kernel) (by decide +kernel) (Nat.le_of_ble_eq_true rfl) px_d270_11 (fun H locs hP hD hS => ?_)
    have hP : va_P (dC, dI) vwCl [(hp, .inr (7, [.ref q_b, .ref q_d, .int p_length, .int 1])), (q_b, .inl (c_b, l_b, .inl g_b)), (q_d, .inl (c_b, 48, .inl g_d))] H := hP
    have hD : va_D A [(hp, .inr (7, [.ref q_b, .ref q_d, .int p_length, .int 1])), (q_b, .inl (c_b, l_b, .inl g_b)), (q_d, .inl (c_b, 48, .inl g_d))] := hD
    refine W.widen (k := mc) (n := ms) (Nat.zero_le mc) (Nat.zero_le ms) ?_
    rw [← hQ]
    exact W.vret hx hb hr (fun t ht hW => ⟨⟨(q_b, l_b, p_length, 1, g_b, g_d), rfl, hw, by rw [ht]; exact hP, va_K.moved hW.alike hK, hD⟩, hS.F ht⟩) hS.2.2 px_d270_14

/-! MatroidDesk$Product.number(J)V -/
def w269_L65 (mc : Nat) (ms : Nat) (post : Nat → Nat → Int32 → Int32 → (Nat → Int32) → (Nat → Int32) → Prop) : Nat → Int64 → Int64 → Int32 → Int32 → Nat → Nat → Int32 → Int32 → (Nat → Int32) → (Nat → Int32) → Nat → Nat → Prop
  | 0 => fun _ _ _ _ _ _ _ _ _ _ _ _ => False
  | k + 1 => fun x1 x3 x5 x6 q_b l_b p_length p_full g_b g_d kc ks => (x6 < 0 → post q_b l_b p_length p_full g_b g_d) ∧ (¬ x6 < 0 → vp_in x6 48 ∧ (∃ m78_7 s78_7 : Nat, kc + m78_7 ≤ mc ∧ ks + s78_7 ≤ ms ∧ (w270_wp m78_7 s78_7 (fun v1 v2 v3 v4 v5 v6 => ∀ z9 : Int32, z9 = x6 + (-1) → (w269_L65 mc ms post k) x1 x3 x5 z9 v1 v2 v3 v4 v5 v6 (kc + m78_7) (ks + s78_7)) (g_d (Int32.toNatClampNeg x6)) q_b l_b p_length p_full g_b g_d)))
def w269_L59 (mc : Nat) (ms : Nat) (post : Nat → Nat → Int32 → Int32 → (Nat → Int32) → (Nat → Int32) → Prop) (x1 : Int64) (x3 : Int64) (x5 : Int32) (x6 : Int32) (q_b : Nat) (l_b : Nat) (p_length : Int32) (p_full : Int32) (g_b : Nat → Int32) (g_d : Nat → Int32) (kc : Nat) (ks : Nat) : Prop := ∀ z10 : Int32, z10 = x5 - 1 → ∃ j65, w269_L65 mc ms post j65 x1 x3 x5 z10 q_b l_b p_length p_full g_b g_d kc ks
def w269_L26 (K8 : Int64 → Int64 → Int32 → Int32 → Nat → Nat → Int32 → Int32 → (Nat → Int32) → (Nat → Int32) → Nat → Nat → Prop) (mc : Nat) (ms : Nat) (post : Nat → Nat → Int32 → Int32 → (Nat → Int32) → (Nat → Int32) → Prop) (x1 : Int64) (x3 : Int64) (x5 : Int32) (x6 : Int32) (q_b : Nat) (l_b : Nat) (p_length : Int32) (p_full : Int32) (g_b : Nat → Int32) (g_d : Nat → Int32) (kc : Nat) (ks : Nat) : Prop := vp_in x6 48 ∧ (∀ z11 : Int64, z11 = x3 / 10 → ∀ z12 : Int32, z12 = x5 + 1 → ∀ z13 : Int32, z13 = x6 + 1 → K8 x1 z11 z12 z13 q_b l_b p_length p_full g_b (upd g_d (Int32.toNatClampNeg x6) (vp_nar .byte (((48 + (x3 - x3 / 10 * 10)).toInt32).toInt8.toInt32))) kc ks)
def w269_L8 (mc : Nat) (ms : Nat) (post : Nat → Nat → Int32 → Int32 → (Nat → Int32) → (Nat → Int32) → Prop) : Nat → Int64 → Int64 → Int32 → Int32 → Nat → Nat → Int32 → Int32 → (Nat → Int32) → (Nat → Int32) → Nat → Nat → Prop
  | 0 => fun _ _ _ _ _ _ _ _ _ _ _ _ => False
  | k + 1 => fun x1 x3 x5 x6 q_b l_b p_length p_full g_b g_d kc ks => (48 ≤ x6 → w269_L59 mc ms post x1 x3 x5 x6 q_b l_b p_length p_full g_b g_d kc ks) ∧ (¬ 48 ≤ x6 → (x6 = 0 → w269_L26 (w269_L8 mc ms post k) mc ms post x1 x3 x5 x6 q_b l_b p_length p_full g_b g_d kc ks) ∧ (¬ x6 = 0 → ((lg_cmp x3 0) = 0 → w269_L59 mc ms post x1 x3 x5 x6 q_b l_b p_length p_full g_b g_d kc ks) ∧ (¬ (lg_cmp x3 0) = 0 → w269_L26 (w269_L8 mc ms post k) mc ms post x1 x3 x5 x6 q_b l_b p_length p_full g_b g_d kc ks)))
def w269_wp (mc : Nat) (ms : Nat) (post : Nat → Nat → Int32 → Int32 → (Nat → Int32) → (Nat → Int32) → Prop) (a1x : Int64) (q_b : Nat) (l_b : Nat) (p_length : Int32) (p_full : Int32) (g_b : Nat → Int32) (g_d : Nat → Int32) : Prop := ∃ j8, w269_L8 mc ms post j8 a1x a1x 0 0 q_b l_b p_length p_full g_b g_d 0 0
set_option maxHeartbeats 8000000 in
set_option maxRecDepth 100000 in
theorem w269_met (l : Launch) (dC : Nat → ClassId) (dI : Nat → Nat → Nat) (sz : Nat) (hp : Nat) (q_d : Nat) (c_b : ClassId) (mc : Nat) (ms : Nat) (a1x : Int64) (q_b : Nat) (l_b : Nat) (p_length : Int32) (p_full : Int32) (g_b : Nat → Int32) (g_d : Nat → Int32) (post : Nat → Nat → Int32 → Int32 → (Nat → Int32) → (Nat → Int32) → Prop) (hw : w269_wp mc ms post a1x q_b l_b p_length p_full g_b g_d) : Met l px_y269 px_s269 ({ frames := 3, cells := mc, slots := ms, locals := 64 }) (va_Pc [.ref hp, .long a1x] (fun U => U.heap.size = sz ∧ va_P (dC, dI) vwCl [(hp, .inr (7, [.ref q_b, .ref q_d, .int p_length, .int p_full])), (q_b, .inl (c_b, l_b, .inl g_b)), (q_d, .inl (c_b, 48, .inl g_d))] U.heap ∧ va_K (dC, dI) vwCl [(c_b, .byte)] U ∧ va_D (fun _ => True) [(hp, .inr (7, [.ref q_b, .ref q_d, .int p_length, .int p_full])), (q_b, .inl (c_b, l_b, .inl g_b)), (q_d, .inl (c_b, 48, .inl g_d))] ∧ px_N U)) (va_Qv (fun (u : Nat × Nat × Int32 × Int32 × (Nat → Int32) × (Nat → Int32)) => post u.1 u.2.1 u.2.2.1 u.2.2.2.1 u.2.2.2.2.1 u.2.2.2.2.2) (fun (u : Nat × Nat × Int32 × Int32 × (Nat → Int32) × (Nat → Int32)) (t : State) => va_P (dC, dI) vwCl [(hp, .inr (7, [.ref u.1, .ref q_d, .int u.2.2.1, .int u.2.2.2.1])), (u.1, .inl (c_b, u.2.1, .inl u.2.2.2.2.1)), (q_d, .inl (c_b, 48, .inl u.2.2.2.2.2))] t.heap ∧ va_K (dC, dI) vwCl [(c_b, .byte)] t ∧ va_D (va_A [(hp, .inr (7, [.ref q_b, .ref q_d, .int p_length, .int p_full])), (q_b, .inl (c_b, l_b, .inl g_b)), (q_d, .inl (c_b, 48, .inl g_d))] sz) [(hp, .inr (7, [.ref u.1, .ref q_d, .int u.2.2.1, .int u.2.2.2.1])), (u.1, .inl (c_b, u.2.1, .inl u.2.2.2.2.1)), (q_d, .inl (c_b, 48, .inl u.2.2.2.2.2))]) (va_A [(hp, .inr (7, [.ref q_b, .ref q_d, .int p_length, .int p_full])), (q_b, .inl (c_b, l_b, .inl g_b)), (q_d, .inl (c_b, 48, .inl g_d))] sz)) mc ms (va_A [(hp, .inr (7, [.ref q_b, .ref q_d, .int p_length, .int p_full])), (q_b, .inl (c_b, l_b, .inl g_b)), (q_d, .inl (c_b, 48, .inl g_d))] sz) := by
  refine Met.ofW (cc := prog_7_method_5_code) (maxL := 7) (ret := none) (by decide) rfl ?_
  intro p e s m args below meth c s₁ B hml hv
  obtain ⟨rfl, hsz, hP, hK, hD0, hN⟩ := hv
  have hx := B.exec
  have hb := B.bytes
  have hr := B.returns
  have htw : ∀ w ∈ px_all, w.before _ s = true := fun w h => atoms_spec (ws := px_s269) B.pre w (List.mem_cons_of_mem _ h)
  have hown : s.vm.findClass "MatroidDesk$Product" = some m.cls := findClass_of_methodNamed B.named
  have hlocks := B.notSynchronized
  subst hsz
  have hD := hD0.self (sz := s.heap.size)
  generalize hAe : va_A [(hp, .inr (7, [.ref q_b, .ref q_d, .int p_length, .int p_full])), (q_b, .inl (c_b, l_b, .inl g_b)), (q_d, .inl (c_b, 48, .inl g_d))] s.heap.size = A at hD ⊢
  have hA : ∀ q : Nat, s.heap.size ≤ q → A q := fun q h => by rw [← hAe]; exact Or.inr h
  have hS : va_S A s.heap s.heap [] := va_S.rf
  have hP : va_P (dC, dI) vwCl [(hp, .inr (7, [.ref q_b, .ref q_d, .int p_length, .int p_full])), (q_b, .inl (c_b, l_b, .inl g_b)), (q_d, .inl (c_b, 48, .inl g_d))] s.heap := hP
  have hl := lv_entry ([.ref hp, .long a1x]) (n := 7) (Nat.le_of_ble_eq_true rfl)
  rw [lg_entry_eq]
  generalize (lg_sl ([.ref hp, .long a1x]) ++ List.replicate (7 - (lg_sl ([.ref hp, .long a1x])).length) Slot.unset).toArray = ls at hl ⊢
  have hl : lv_has ls 7 [(0, .ref hp), (1, .long a1x)] := hl
  generalize hQ : MQ _ _ _ _ _ _ _ = Q
  have S65 : ∀ (k65 : Nat) (x1 : Int64) (x3 : Int64) (x5 : Int32) (x6 : Int32) (q_b : Nat) (l_b : Nat) (p_length : Int32) (p_full : Int32) (g_b : Nat → Int32) (g_d : Nat → Int32) (kc : Nat) (ks : Nat) (H : Heap) (locs : List Loc) (ls : Array Slot), kc ≤ mc → ks ≤ ms → va_P (dC, dI) vwCl [(hp, .inr (7, [.ref q_b, .ref q_d, .int p_length, .int p_full])), (q_b, .inl (c_b, l_b, .inl g_b)), (q_d, .inl (c_b, 48, .inl g_d))] H → va_D A [(hp, .inr (7, [.ref q_b, .ref q_d, .int p_length, .int p_full])), (q_b, .inl (c_b, l_b, .inl g_b)), (q_d, .inl (c_b, 48, .inl g_d))] → va_S A s.heap H locs → lv_has ls 7 [(0, .ref hp), (1, .long x1), (3, .long x3), (5, .int x5), (6, .int x6)] → w269_L65 mc ms post k65 x1 x3 x5 x6 q_b l_b p_length p_full g_b g_d kc ks → W p l e (headSpec px_s269 ({ frames := 3, cells := mc, slots := ms, locals := 64 })).room s m ([.ref hp, .long a1x]).toArray below meth c H locs kc ks Q (F0 m 65 ls []) := by
    intro k65
    induction k65 with
    | zero => intro x1 x3 x5 x6 q_b l_b p_length p_full g_b g_d kc ks H locs ls hkc hks hP hD hS hl hw; exact False.elim hw
    | succ k65 ih65 =>
      intro x1 x3 x5 x6 q_b l_b p_length p_full g_b g_d kc ks H locs ls hkc hks hP hD hS hl hw
      unfold w269_L65 at hw
      refine lv_iload hx hb px_d269_65 (lv_at hl 4 rfl) ?_
      refine lv_if_lt (tgt := 87) hx hb px_d269_67 (by decide) (fun c67 => ?_) (fun c67 => ?_)
      · have hw := hw.1 c67
        refine W.widen (k := mc) (n := ms) hkc hks ?_
        rw [← hQ]
        exact W.vret hx hb hr (fun t ht hW => ⟨⟨(q_b, l_b, p_length, p_full, g_b, g_d), rfl, hw, by rw [ht]; exact hP, va_K.moved hW.alike hK, hD⟩, hS.F ht⟩) hS.2.2 px_d269_87
      · have hw := hw.2 c67
        refine lv_aload_n hx hb px_d269_70 rfl (lv_at hl 0 rfl) ?_
        refine lv_aload_n hx hb px_d269_71 rfl (lv_at hl 0 rfl) ?_
        refine va_get (D := (dC, dI)) (ci := 7) (v := .ref q_d) (C := "MatroidDesk$Product") (T := px_T7) (N := 4) hx hb htw px_in7 hown hK hP 0 rfl rfl 1 (by decide) (htw _ px_w233) (fun _ h9 => h9) rfl px_d269_72 ?_
        refine lv_iload hx hb px_d269_75 (lv_at hl 4 rfl) ?_
        obtain ⟨hi77, hw⟩ := hw
        refine va_bald hx hb hK hP 2 0 rfl rfl hi77 px_d269_77 ?_
        obtain ⟨m78_7, s78_7, hm78_7, hs78_7, hw⟩ := hw
        have hPc := hP.sub (ws' := [(hp, .inr (7, [.ref q_b, .ref q_d, .int p_length, .int p_full])), (q_b, .inl (c_b, l_b, .inl g_b)), (q_d, .inl (c_b, 48, .inl g_d))]) [0, 1, 2] rfl
        have hDc := hD.sub (ws' := [(hp, .inr (7, [.ref q_b, .ref q_d, .int p_length, .int p_full])), (q_b, .inl (c_b, l_b, .inl g_b)), (q_d, .inl (c_b, 48, .inl g_d))]) [0, 1, 2] (by decide) rfl
        have hFc := va_free (wc := [(hp, .inr (7, [.ref q_b, .ref q_d, .int p_length, .int p_full])), (q_b, .inl (c_b, l_b, .inl g_b)), (q_d, .inl (c_b, 48, .inl g_d))]) hD hS hA [0, 1, 2] rfl
        have hKc := hK.sub (tys' := [(c_b, .byte)]) [0] rfl
        refine va_callv (va_runV (As := [.int (g_d (Int32.toNatClampNeg x6))]) (rest := []) ⟨hx, hb, hml, hown, htw⟩ (w270_met l dC dI H.size hp q_d c_b m78_7 s78_7 (g_d (Int32.toNatClampNeg x6)) q_b l_b p_length p_full g_b g_d _ hw) (cwV 1 htw (px_gv px_w1376 px_w1378 px_w1379 px_w88 px_g270) rfl rfl rfl (by decide +kernel) ⟨Nat.le_of_ble_eq_true rfl, Nat.le_of_ble_eq_true rfl⟩) ⟨fun a U g mk q => by obtain ⟨q0, q1, qP, qK, qD, qN⟩ := q; exact ⟨q0, q1, qP, va_K.moved (u := U) (U := U.calling g mk a) (Vm.Alike.refl U.vm) qK, qD, qN.same rfl⟩, va_recv hK hP (ci := 7) (q0 := 0) rfl rfl, fun U hU hW => ⟨rfl, by rw [hU], by rw [hU]; exact hPc, va_K.moved hW.alike hKc, hDc.weaken (fun _ _ _ _ => trivial), hN.warm hW⟩⟩ rfl rfl hl.1 rfl (lv_room (Nat.le_of_ble_eq_true rfl)) px_d269_78 ⟨hm78_7, hs78_7⟩) hS (fun q _ h => hFc q h) hFc (fun u t H1 locs ht hvm hw hB hz1 hk1 hS => ?_)
        obtain ⟨v1, v2, v3, v4, v5, v6⟩ := u
        obtain ⟨hP1, hK1, hD1⟩ := hB
        rw [ht] at hP1
        obtain ⟨hP, hD⟩ := va_join (wr := []) (w1 := [(hp, .inr (7, [.ref v1, .ref q_d, .int v3, .int v4])), (v1, .inl (c_b, v2, .inl v5)), (q_d, .inl (c_b, 48, .inl v6))]) hP hD [0, 1, 2] [] rfl rfl (by decide) (by decide) hk1 hFc hP1 hD1
        generalize H1 = H at hP hS ⊢
        have hP : va_P (dC, dI) vwCl [(hp, .inr (7, [.ref v1, .ref q_d, .int v3, .int v4])), (v1, .inl (c_b, v2, .inl v5)), (q_d, .inl (c_b, 48, .inl v6))] H := hP
        have hD : va_D A [(hp, .inr (7, [.ref v1, .ref q_d, .int v3, .int v4])), (v1, .inl (c_b, v2, .inl v5)), (q_d, .inl (c_b, 48, .inl v6))] := hD
        obtain ⟨z9, ez9⟩ : ∃ y : Int32, y = x6 + (-1) := ⟨_, rfl⟩
        have hw := hw z9 ez9
        refine lv_iinc (v := z9) (lv' := [(6, .int z9), (0, .ref hp), (1, .long x1), (3, .long x3), (5, .int x5)]) hx hb px_d269_81 hl (k := 4) rfl (by rw [ez9]; rfl) (by decide) rfl (fun ls hl => ?_)
        refine lv_goto (tgt := 65) hx hb px_d269_84 (by decide) ?_
        exact ih65 x1 x3 x5 z9 v1 v2 v3 v4 v5 v6 (kc + m78_7) (ks + s78_7) H locs ls hm78_7 hs78_7 hP hD hS (lv_sub hl [1, 2, 3, 4, 0] rfl) hw
  have S59 : ∀ (x1 : Int64) (x3 : Int64) (x5 : Int32) (x6 : Int32) (q_b : Nat) (l_b : Nat) (p_length : Int32) (p_full : Int32) (g_b : Nat → Int32) (g_d : Nat → Int32) (kc : Nat) (ks : Nat) (H : Heap) (locs : List Loc) (ls : Array Slot), kc ≤ mc → ks ≤ ms → va_P (dC, dI) vwCl [(hp, .inr (7, [.ref q_b, .ref q_d, .int p_length, .int p_full])), (q_b, .inl (c_b, l_b, .inl g_b)), (q_d, .inl (c_b, 48, .inl g_d))] H → va_D A [(hp, .inr (7, [.ref q_b, .ref q_d, .int p_length, .int p_full])), (q_b, .inl (c_b, l_b, .inl g_b)), (q_d, .inl (c_b, 48, .inl g_d))] → va_S A s.heap H locs → lv_has ls 7 [(0, .ref hp), (1, .long x1), (3, .long x3), (5, .int x5), (6, .int x6)] → w269_L59 mc ms post x1 x3 x5 x6 q_b l_b p_length p_full g_b g_d kc ks → W p l e (headSpec px_s269 ({ frames := 3, cells := mc, slots := ms, locals := 64 })).room s m ([.ref hp, .long a1x]).toArray below meth c H locs kc ks Q (F0 m 59 ls []) := by
    intro x1 x3 x5 x6 q_b l_b p_length p_full g_b g_d kc ks H locs ls hkc hks hP hD hS hl hw
    unfold w269_L59 at hw
    refine lv_iload hx hb px_d269_59 (lv_at hl 3 rfl) ?_
    refine lv_iconst (v := 1) hx hb px_d269_61 (by decide) ?_
    refine lv_isub hx hb px_d269_62 ?_
    refine lv_topi (fun z10 ez10 => ?_)
    have hw := hw z10 ez10
    refine lv_istore (lv' := [(6, .int z10), (0, .ref hp), (1, .long x1), (3, .long x3), (5, .int x5)]) hx hb px_d269_63 hl (by decide) rfl (fun ls hl => ?_)
    obtain ⟨k9, hw⟩ := hw
    exact S65 k9 x1 x3 x5 z10 q_b l_b p_length p_full g_b g_d kc ks H locs ls hkc hks hP hD hS (lv_sub hl [1, 2, 3, 4, 0] rfl) hw
  have S8 : ∀ (k8 : Nat) (x1 : Int64) (x3 : Int64) (x5 : Int32) (x6 : Int32) (q_b : Nat) (l_b : Nat) (p_length : Int32) (p_full : Int32) (g_b : Nat → Int32) (g_d : Nat → Int32) (kc : Nat) (ks : Nat) (H : Heap) (locs : List Loc) (ls : Array Slot), kc ≤ mc → ks ≤ ms → va_P (dC, dI) vwCl [(hp, .inr (7, [.ref q_b, .ref q_d, .int p_length, .int p_full])), (q_b, .inl (c_b, l_b, .inl g_b)), (q_d, .inl (c_b, 48, .inl g_d))] H → va_D A [(hp, .inr (7, [.ref q_b, .ref q_d, .int p_length, .int p_full])), (q_b, .inl (c_b, l_b, .inl g_b)), (q_d, .inl (c_b, 48, .inl g_d))] → va_S A s.heap H locs → lv_has ls 7 [(0, .ref hp), (1, .long x1), (3, .long x3), (5, .int x5), (6, .int x6)] → w269_L8 mc ms post k8 x1 x3 x5 x6 q_b l_b p_length p_full g_b g_d kc ks → W p l e (headSpec px_s269 ({ frames := 3, cells := mc, slots := ms, locals := 64 })).room s m ([.ref hp, .long a1x]).toArray below meth c H locs kc ks Q (F0 m 8 ls []) := by
    intro k8
    induction k8 with
    | zero => intro x1 x3 x5 x6 q_b l_b p_length p_full g_b g_d kc ks H locs ls hkc hks hP hD hS hl hw; exact False.elim hw
    | succ k8 ih8 =>
      have S26 : ∀ (x1 : Int64) (x3 : Int64) (x5 : Int32) (x6 : Int32) (q_b : Nat) (l_b : Nat) (p_length : Int32) (p_full : Int32) (g_b : Nat → Int32) (g_d : Nat → Int32) (kc : Nat) (ks : Nat) (H : Heap) (locs : List Loc) (ls : Array Slot), kc ≤ mc → ks ≤ ms → va_P (dC, dI) vwCl [(hp, .inr (7, [.ref q_b, .ref q_d, .int p_length, .int p_full])), (q_b, .inl (c_b, l_b, .inl g_b)), (q_d, .inl (c_b, 48, .inl g_d))] H → va_D A [(hp, .inr (7, [.ref q_b, .ref q_d, .int p_length, .int p_full])), (q_b, .inl (c_b, l_b, .inl g_b)), (q_d, .inl (c_b, 48, .inl g_d))] → va_S A s.heap H locs → lv_has ls 7 [(0, .ref hp), (1, .long x1), (3, .long x3), (5, .int x5), (6, .int x6)] → w269_L26 (w269_L8 mc ms post k8) mc ms post x1 x3 x5 x6 q_b l_b p_length p_full g_b g_d kc ks → W p l e (headSpec px_s269 ({ frames := 3, cells := mc, slots := ms, locals := 64 })).room s m ([.ref hp, .long a1x]).toArray below meth c H locs kc ks Q (F0 m 26 ls []) := by
        intro x1 x3 x5 x6 q_b l_b p_length p_full g_b g_d kc ks H locs ls hkc hks hP hD hS hl hw
        unfold w269_L26 at hw
        refine lv_aload_n hx hb px_d269_26 rfl (lv_at hl 0 rfl) ?_
        refine va_get (D := (dC, dI)) (ci := 7) (v := .ref q_d) (C := "MatroidDesk$Product") (T := px_T7) (N := 4) hx hb htw px_in7 hown hK hP 0 rfl rfl 1 (by decide) (htw _ px_w233) (fun _ h9 => h9) rfl px_d269_27 ?_
        refine lv_iload hx hb px_d269_30 (lv_at hl 4 rfl) ?_
        refine lv_ldc2 hx hb (own := "MatroidDesk$Product") (index := 46) (v := 48) hown (htw _ px_w1374) px_d269_32 ?_
        refine lv_lload_n hx hb px_d269_35 rfl (lv_at hl 2 rfl) ?_
        refine lv_ldc2 hx hb (own := "MatroidDesk$Product") (index := 48) (v := 10) hown (htw _ px_w1375) px_d269_36 ?_
        refine lv_lrem hx hb px_d269_39 (by decide +kernel) ?_
        refine lv_ladd hx hb px_d269_40 ?_
        refine lv_l2i (v := (48 + (x3 - x3 / 10 * 10)).toInt32) hx hb px_d269_41 rfl ?_
        refine lv_i2b (v := ((48 + (x3 - x3 / 10 * 10)).toInt32).toInt8.toInt32) hx hb px_d269_42 rfl ?_
        obtain ⟨hi43, hw⟩ := hw
        refine va_bast hx hb hK hP hD hS 2 0 rfl rfl hi43 px_d269_43 (fun H locs hP hD hS => ?_)
        have hP : va_P (dC, dI) vwCl [(hp, .inr (7, [.ref q_b, .ref q_d, .int p_length, .int p_full])), (q_b, .inl (c_b, l_b, .inl g_b)), (q_d, .inl (c_b, 48, .inl (upd g_d (Int32.toNatClampNeg x6) (vp_nar .byte (((48 + (x3 - x3 / 10 * 10)).toInt32).toInt8.toInt32)))))] H := hP
        have hD : va_D A [(hp, .inr (7, [.ref q_b, .ref q_d, .int p_length, .int p_full])), (q_b, .inl (c_b, l_b, .inl g_b)), (q_d, .inl (c_b, 48, .inl (upd g_d (Int32.toNatClampNeg x6) (vp_nar .byte (((48 + (x3 - x3 / 10 * 10)).toInt32).toInt8.toInt32)))))] := hD
        refine lv_lload_n hx hb px_d269_44 rfl (lv_at hl 2 rfl) ?_
        refine lv_ldc2 hx hb (own := "MatroidDesk$Product") (index := 48) (v := 10) hown (htw _ px_w1375) px_d269_45 ?_
        refine lv_ldiv hx hb px_d269_48 (by decide +kernel) ?_
        refine lv_topl (fun z11 ez11 => ?_)
        have hw := hw z11 ez11
        refine lv_lstore_n (lv' := [(3, .long z11), (0, .ref hp), (1, .long x1), (5, .int x5), (6, .int x6)]) hx hb px_d269_49 rfl hl (by decide) rfl (fun ls hl => ?_)
        obtain ⟨z12, ez12⟩ : ∃ y : Int32, y = x5 + 1 := ⟨_, rfl⟩
        have hw := hw z12 ez12
        refine lv_iinc (v := z12) (lv' := [(5, .int z12), (3, .long z11), (0, .ref hp), (1, .long x1), (6, .int x6)]) hx hb px_d269_50 hl (k := 3) rfl (by rw [ez12]; rfl) (by decide) rfl (fun ls hl => ?_)
        obtain ⟨z13, ez13⟩ : ∃ y : Int32, y = x6 + 1 := ⟨_, rfl⟩
        have hw := hw z13 ez13
        refine lv_iinc (v := z13) (lv' := [(6, .int z13), (5, .int z12), (3, .long z11), (0, .ref hp), (1, .long x1)]) hx hb px_d269_53 hl (k := 4) rfl (by rw [ez13]; rfl) (by decide) rfl (fun ls hl => ?_)
        refine lv_goto (tgt := 8) hx hb px_d269_56 (by decide) ?_
        exact ih8 x1 z11 z12 z13 q_b l_b p_length p_full g_b (upd g_d (Int32.toNatClampNeg x6) (vp_nar .byte (((48 + (x3 - x3 / 10 * 10)).toInt32).toInt8.toInt32))) kc ks H locs ls hkc hks hP hD hS (lv_sub hl [3, 4, 2, 1, 0] rfl) hw
      intro x1 x3 x5 x6 q_b l_b p_length p_full g_b g_d kc ks H locs ls hkc hks hP hD hS hl hw
      unfold w269_L8 at hw
      refine lv_iload hx hb px_d269_8 (lv_at hl 4 rfl) ?_
      refine lv_bipush (v := 48) hx hb px_d269_10 (by decide) ?_
      refine lv_icmp_ge (tgt := 59) hx hb px_d269_12 (by decide) (fun c12 => ?_) (fun c12 => ?_)
      · have hw := hw.1 c12
        exact S59 x1 x3 x5 x6 q_b l_b p_length p_full g_b g_d kc ks H locs ls hkc hks hP hD hS (lv_sub hl [0, 1, 2, 3, 4] rfl) hw
      · have hw := hw.2 c12
        refine lv_iload hx hb px_d269_15 (lv_at hl 4 rfl) ?_
        refine lv_if_eq (tgt := 26) hx hb px_d269_17 (by decide) (fun c17 => ?_) (fun c17 => ?_)
        · have hw := hw.1 c17
          exact S26 x1 x3 x5 x6 q_b l_b p_length p_full g_b g_d kc ks H locs ls hkc hks hP hD hS (lv_sub hl [0, 1, 2, 3, 4] rfl) hw
        · have hw := hw.2 c17
          refine lv_lload_n hx hb px_d269_20 rfl (lv_at hl 2 rfl) ?_
          refine lv_lconst (v := 0) hx hb px_d269_21 (by decide) ?_
          refine W.lcmp hx hb px_d269_22 ?_
          refine lv_if_eq (tgt := 59) hx hb px_d269_23 (by decide) (fun c23 => ?_) (fun c23 => ?_)
          · have hw := hw.1 c23
            exact S59 x1 x3 x5 x6 q_b l_b p_length p_full g_b g_d kc ks H locs ls hkc hks hP hD hS (lv_sub hl [0, 1, 2, 3, 4] rfl) hw
          · have hw := hw.2 c23
            exact S26 x1 x3 x5 x6 q_b l_b p_length p_full g_b g_d kc ks H locs ls hkc hks hP hD hS (lv_sub hl [0, 1, 2, 3, 4] rfl) hw
  unfold w269_wp at hw
  have hS0 := hS
  obtain ⟨H, hH9⟩ : ∃ z, z = s.heap := ⟨_, rfl⟩
  have hP : va_P (dC, dI) vwCl [(hp, .inr (7, [.ref q_b, .ref q_d, .int p_length, .int p_full])), (q_b, .inl (c_b, l_b, .inl g_b)), (q_d, .inl (c_b, 48, .inl g_d))] H := by rw [hH9]; exact hP
  obtain ⟨locs, hlo9⟩ : ∃ z : List Loc, z = [] := ⟨_, rfl⟩
  have hS : va_S A s.heap H locs := by rw [hH9, hlo9]; exact hS
  suffices hG : W p l e (headSpec px_s269 ({ frames := 3, cells := mc, slots := ms, locals := 64 })).room s m ([.ref hp, .long a1x]).toArray below meth c H locs 0 0 Q (F0 m 0 ls []) by rw [hH9, hlo9] at hG; exact hG
  refine lv_lload_n hx hb px_d269_0 rfl (lv_at hl 1 rfl) ?_
  refine lv_lstore_n (lv' := [(3, .long a1x), (0, .ref hp), (1, .long a1x)]) hx hb px_d269_1 rfl hl (by decide) rfl (fun ls hl => ?_)
  refine lv_iconst (v := 0) hx hb px_d269_2 (by decide) ?_
  refine lv_istore (lv' := [(5, .int 0), (3, .long a1x), (0, .ref hp), (1, .long a1x)]) hx hb px_d269_3 hl (by decide) rfl (fun ls hl => ?_)
  refine lv_iconst (v := 0) hx hb px_d269_5 (by decide) ?_
  refine lv_istore (lv' := [(6, .int 0), (5, .int 0), (3, .long a1x), (0, .ref hp), (1, .long a1x)]) hx hb px_d269_6 hl (by decide) rfl (fun ls hl => ?_)
  obtain ⟨k9, hw⟩ := hw
  exact S8 k9 a1x a1x 0 0 q_b l_b p_length p_full g_b g_d 0 0 H locs ls (Nat.zero_le mc) (Nat.zero_le ms) hP hD hS (lv_sub hl [3, 4, 2, 1, 0] rfl) hw

/-! MatroidDesk$Product.wide(LMatroidDesk$Wide;)V -/
def w331_L48 (mc : Nat) (ms : Nat) (post : Nat → Nat → Int32 → Int32 → (Nat → Int32) → (Nat → Int32) → Int64 → Int64 → Int64 → Prop) : Nat → Int32 → Int32 → Nat → Nat → Int32 → Int32 → (Nat → Int32) → (Nat → Int32) → Int64 → Int64 → Int64 → Nat → Nat → Prop
  | 0 => fun _ _ _ _ _ _ _ _ _ _ _ _ _ => False
  | k + 1 => fun x2 x3 q_b l_b p_length p_full g_b g_d w0_low w0_middle w0_high kc ks => (x3 < 0 → post q_b l_b p_length p_full g_b g_d w0_low w0_middle w0_high) ∧ (¬ x3 < 0 → vp_in x3 48 ∧ (∃ m59_7 s59_7 : Nat, kc + m59_7 ≤ mc ∧ ks + s59_7 ≤ ms ∧ (w270_wp m59_7 s59_7 (fun v1 v2 v3 v4 v5 v6 => ∀ z9 : Int32, z9 = x3 + (-1) → (w331_L48 mc ms post k) x2 z9 v1 v2 v3 v4 v5 v6 w0_low w0_middle w0_high (kc + m59_7) (ks + s59_7)) (g_d (Int32.toNatClampNeg x3)) q_b l_b p_length p_full g_b g_d)))
def w331_L44 (mc : Nat) (ms : Nat) (post : Nat → Nat → Int32 → Int32 → (Nat → Int32) → (Nat → Int32) → Int64 → Int64 → Int64 → Prop) (x2 : Int32) (x3 : Int32) (q_b : Nat) (l_b : Nat) (p_length : Int32) (p_full : Int32) (g_b : Nat → Int32) (g_d : Nat → Int32) (w0_low : Int64) (w0_middle : Int64) (w0_high : Int64) (kc : Nat) (ks : Nat) : Prop := ∀ z10 : Int32, z10 = x2 - 1 → ∃ j48, w331_L48 mc ms post j48 x2 z10 q_b l_b p_length p_full g_b g_d w0_low w0_middle w0_high kc ks
def w331_L21 (K4 : Int32 → Int32 → Nat → Nat → Int32 → Int32 → (Nat → Int32) → (Nat → Int32) → Int64 → Int64 → Int64 → Nat → Nat → Prop) (mc : Nat) (ms : Nat) (post : Nat → Nat → Int32 → Int32 → (Nat → Int32) → (Nat → Int32) → Int64 → Int64 → Int64 → Prop) (x2 : Int32) (x3 : Int32) (q_b : Nat) (l_b : Nat) (p_length : Int32) (p_full : Int32) (g_b : Nat → Int32) (g_d : Nat → Int32) (w0_low : Int64) (w0_middle : Int64) (w0_high : Int64) (kc : Nat) (ks : Nat) : Prop := (w332_wp (fun r29 v11 v12 v13 => vp_in x3 48 ∧ (∀ z15 : Int32, z15 = x2 + 1 → ∀ z16 : Int32, z16 = x3 + 1 → K4 z15 z16 q_b l_b p_length p_full g_b (upd g_d (Int32.toNatClampNeg x3) (vp_nar .byte ((48 + r29).toInt8.toInt32))) v11 v12 v13 kc ks)) w0_low w0_middle w0_high)
def w331_L4 (mc : Nat) (ms : Nat) (post : Nat → Nat → Int32 → Int32 → (Nat → Int32) → (Nat → Int32) → Int64 → Int64 → Int64 → Prop) : Nat → Int32 → Int32 → Nat → Nat → Int32 → Int32 → (Nat → Int32) → (Nat → Int32) → Int64 → Int64 → Int64 → Nat → Nat → Prop
  | 0 => fun _ _ _ _ _ _ _ _ _ _ _ _ _ => False
  | k + 1 => fun x2 x3 q_b l_b p_length p_full g_b g_d w0_low w0_middle w0_high kc ks => (48 ≤ x3 → w331_L44 mc ms post x2 x3 q_b l_b p_length p_full g_b g_d w0_low w0_middle w0_high kc ks) ∧ (¬ 48 ≤ x3 → (x3 = 0 → w331_L21 (w331_L4 mc ms post k) mc ms post x2 x3 q_b l_b p_length p_full g_b g_d w0_low w0_middle w0_high kc ks) ∧ (¬ x3 = 0 → (w318_wp (fun r15 v17 v18 v19 => (¬ r15 = 0 → w331_L44 mc ms post x2 x3 q_b l_b p_length p_full g_b g_d v17 v18 v19 kc ks) ∧ (r15 = 0 → w331_L21 (w331_L4 mc ms post k) mc ms post x2 x3 q_b l_b p_length p_full g_b g_d v17 v18 v19 kc ks)) w0_low w0_middle w0_high)))
def w331_wp (mc : Nat) (ms : Nat) (post : Nat → Nat → Int32 → Int32 → (Nat → Int32) → (Nat → Int32) → Int64 → Int64 → Int64 → Prop) (q_b : Nat) (l_b : Nat) (p_length : Int32) (p_full : Int32) (g_b : Nat → Int32) (g_d : Nat → Int32) (w0_low : Int64) (w0_middle : Int64) (w0_high : Int64) : Prop := ∃ j4, w331_L4 mc ms post j4 0 0 q_b l_b p_length p_full g_b g_d w0_low w0_middle w0_high 0 0
set_option maxHeartbeats 8000000 in
set_option maxRecDepth 100000 in
theorem w331_met (l : Launch) (dC : Nat → ClassId) (dI : Nat → Nat → Nat) (sz : Nat) (hp : Nat) (q_d : Nat) (c_b : ClassId) (mc : Nat) (ms : Nat) (h0 : Nat) (q_b : Nat) (l_b : Nat) (p_length : Int32) (p_full : Int32) (g_b : Nat → Int32) (g_d : Nat → Int32) (w0_low : Int64) (w0_middle : Int64) (w0_high : Int64) (post : Nat → Nat → Int32 → Int32 → (Nat → Int32) → (Nat → Int32) → Int64 → Int64 → Int64 → Prop) (hw : w331_wp mc ms post q_b l_b p_length p_full g_b g_d w0_low w0_middle w0_high) : Met l px_y331 px_s331 ({ frames := 3, cells := mc, slots := ms, locals := 64 }) (va_Pc [.ref hp, .ref h0] (fun U => U.heap.size = sz ∧ va_P (dC, dI) vwCl [(hp, .inr (7, [.ref q_b, .ref q_d, .int p_length, .int p_full])), (q_b, .inl (c_b, l_b, .inl g_b)), (q_d, .inl (c_b, 48, .inl g_d)), (h0, .inr (3, [.long w0_low, .long w0_middle, .long w0_high]))] U.heap ∧ va_K (dC, dI) vwCl [(c_b, .byte)] U ∧ va_D (fun _ => True) [(hp, .inr (7, [.ref q_b, .ref q_d, .int p_length, .int p_full])), (q_b, .inl (c_b, l_b, .inl g_b)), (q_d, .inl (c_b, 48, .inl g_d)), (h0, .inr (3, [.long w0_low, .long w0_middle, .long w0_high]))] ∧ px_N U)) (va_Qv (fun (u : Nat × Nat × Int32 × Int32 × (Nat → Int32) × (Nat → Int32) × Int64 × Int64 × Int64) => post u.1 u.2.1 u.2.2.1 u.2.2.2.1 u.2.2.2.2.1 u.2.2.2.2.2.1 u.2.2.2.2.2.2.1 u.2.2.2.2.2.2.2.1 u.2.2.2.2.2.2.2.2) (fun (u : Nat × Nat × Int32 × Int32 × (Nat → Int32) × (Nat → Int32) × Int64 × Int64 × Int64) (t : State) => va_P (dC, dI) vwCl [(hp, .inr (7, [.ref u.1, .ref q_d, .int u.2.2.1, .int u.2.2.2.1])), (u.1, .inl (c_b, u.2.1, .inl u.2.2.2.2.1)), (q_d, .inl (c_b, 48, .inl u.2.2.2.2.2.1)), (h0, .inr (3, [.long u.2.2.2.2.2.2.1, .long u.2.2.2.2.2.2.2.1, .long u.2.2.2.2.2.2.2.2]))] t.heap ∧ va_K (dC, dI) vwCl [(c_b, .byte)] t ∧ va_D (va_A [(hp, .inr (7, [.ref q_b, .ref q_d, .int p_length, .int p_full])), (q_b, .inl (c_b, l_b, .inl g_b)), (q_d, .inl (c_b, 48, .inl g_d)), (h0, .inr (3, [.long w0_low, .long w0_middle, .long w0_high]))] sz) [(hp, .inr (7, [.ref u.1, .ref q_d, .int u.2.2.1, .int u.2.2.2.1])), (u.1, .inl (c_b, u.2.1, .inl u.2.2.2.2.1)), (q_d, .inl (c_b, 48, .inl u.2.2.2.2.2.1)), (h0, .inr (3, [.long u.2.2.2.2.2.2.1, .long u.2.2.2.2.2.2.2.1, .long u.2.2.2.2.2.2.2.2]))]) (va_A [(hp, .inr (7, [.ref q_b, .ref q_d, .int p_length, .int p_full])), (q_b, .inl (c_b, l_b, .inl g_b)), (q_d, .inl (c_b, 48, .inl g_d)), (h0, .inr (3, [.long w0_low, .long w0_middle, .long w0_high]))] sz)) mc ms (va_A [(hp, .inr (7, [.ref q_b, .ref q_d, .int p_length, .int p_full])), (q_b, .inl (c_b, l_b, .inl g_b)), (q_d, .inl (c_b, 48, .inl g_d)), (h0, .inr (3, [.long w0_low, .long w0_middle, .long w0_high]))] sz) := by
  refine Met.ofW (cc := prog_7_method_6_code) (maxL := 4) (ret := none) (by decide) rfl ?_
  intro p e s m args below meth c s₁ B hml hv
  obtain ⟨rfl, hsz, hP, hK, hD0, hN⟩ := hv
  have hx := B.exec
  have hb := B.bytes
  have hr := B.returns
  have htw : ∀ w ∈ px_all, w.before _ s = true := fun w h => atoms_spec (ws := px_s331) B.pre w (List.mem_cons_of_mem _ h)
  have hown : s.vm.findClass "MatroidDesk$Product" = some m.cls := findClass_of_methodNamed B.named
  have hlocks := B.notSynchronized
  subst hsz
  have hD := hD0.self (sz := s.heap.size)
  generalize hAe : va_A [(hp, .inr (7, [.ref q_b, .ref q_d, .int p_length, .int p_full])), (q_b, .inl (c_b, l_b, .inl g_b)), (q_d, .inl (c_b, 48, .inl g_d)), (h0, .inr (3, [.long w0_low, .long w0_middle, .long w0_high]))] s.heap.size = A at hD ⊢
  have hA : ∀ q : Nat, s.heap.size ≤ q → A q := fun q h => by rw [← hAe]; exact Or.inr h
  have hS : va_S A s.heap s.heap [] := va_S.rf
  have hP : va_P (dC, dI) vwCl [(hp, .inr (7, [.ref q_b, .ref q_d, .int p_length, .int p_full])), (q_b, .inl (c_b, l_b, .inl g_b)), (q_d, .inl (c_b, 48, .inl g_d)), (h0, .inr (3, [.long w0_low, .long w0_middle, .long w0_high]))] s.heap := hP
  have hl := lv_entry ([.ref hp, .ref h0]) (n := 4) (Nat.le_of_ble_eq_true rfl)
  rw [lg_entry_eq]
  generalize (lg_sl ([.ref hp, .ref h0]) ++ List.replicate (4 - (lg_sl ([.ref hp, .ref h0])).length) Slot.unset).toArray = ls at hl ⊢
  have hl : lv_has ls 4 [(0, .ref hp), (1, .ref h0)] := hl
  generalize hQ : MQ _ _ _ _ _ _ _ = Q
  have S48 : ∀ (k48 : Nat) (x2 : Int32) (x3 : Int32) (q_b : Nat) (l_b : Nat) (p_length : Int32) (p_full : Int32) (g_b : Nat → Int32) (g_d : Nat → Int32) (w0_low : Int64) (w0_middle : Int64) (w0_high : Int64) (kc : Nat) (ks : Nat) (H : Heap) (locs : List Loc) (ls : Array Slot), kc ≤ mc → ks ≤ ms → va_P (dC, dI) vwCl [(hp, .inr (7, [.ref q_b, .ref q_d, .int p_length, .int p_full])), (q_b, .inl (c_b, l_b, .inl g_b)), (q_d, .inl (c_b, 48, .inl g_d)), (h0, .inr (3, [.long w0_low, .long w0_middle, .long w0_high]))] H → va_D A [(hp, .inr (7, [.ref q_b, .ref q_d, .int p_length, .int p_full])), (q_b, .inl (c_b, l_b, .inl g_b)), (q_d, .inl (c_b, 48, .inl g_d)), (h0, .inr (3, [.long w0_low, .long w0_middle, .long w0_high]))] → va_S A s.heap H locs → lv_has ls 4 [(0, .ref hp), (1, .ref h0), (2, .int x2), (3, .int x3)] → w331_L48 mc ms post k48 x2 x3 q_b l_b p_length p_full g_b g_d w0_low w0_middle w0_high kc ks → W p l e (headSpec px_s331 ({ frames := 3, cells := mc, slots := ms, locals := 64 })).room s m ([.ref hp, .ref h0]).toArray below meth c H locs kc ks Q (F0 m 48 ls []) := by
    intro k48
    induction k48 with
    | zero => intro x2 x3 q_b l_b p_length p_full g_b g_d w0_low w0_middle w0_high kc ks H locs ls hkc hks hP hD hS hl hw; exact False.elim hw
    | succ k48 ih48 =>
      intro x2 x3 q_b l_b p_length p_full g_b g_d w0_low w0_middle w0_high kc ks H locs ls hkc hks hP hD hS hl hw
      unfold w331_L48 at hw
      refine lv_iload_n hx hb px_d331_48 rfl (lv_at hl 3 rfl) ?_
      refine lv_if_lt (tgt := 68) hx hb px_d331_49 (by decide) (fun c49 => ?_) (fun c49 => ?_)
      · have hw := hw.1 c49
        refine W.widen (k := mc) (n := ms) hkc hks ?_
        rw [← hQ]
        exact W.vret hx hb hr (fun t ht hW => ⟨⟨(q_b, l_b, p_length, p_full, g_b, g_d, w0_low, w0_middle, w0_high), rfl, hw, by rw [ht]; exact hP, va_K.moved hW.alike hK, hD⟩, hS.F ht⟩) hS.2.2 px_d331_68
      · have hw := hw.2 c49
        refine lv_aload_n hx hb px_d331_52 rfl (lv_at hl 0 rfl) ?_
        refine lv_aload_n hx hb px_d331_53 rfl (lv_at hl 0 rfl) ?_
        refine va_get (D := (dC, dI)) (ci := 7) (v := .ref q_d) (C := "MatroidDesk$Product") (T := px_T7) (N := 4) hx hb htw px_in7 hown hK hP 0 rfl rfl 1 (by decide) (htw _ px_w233) (fun _ h9 => h9) rfl px_d331_54 ?_
        refine lv_iload_n hx hb px_d331_57 rfl (lv_at hl 3 rfl) ?_
        obtain ⟨hi58, hw⟩ := hw
        refine va_bald hx hb hK hP 2 0 rfl rfl hi58 px_d331_58 ?_
        obtain ⟨m59_7, s59_7, hm59_7, hs59_7, hw⟩ := hw
        have hPc := hP.sub (ws' := [(hp, .inr (7, [.ref q_b, .ref q_d, .int p_length, .int p_full])), (q_b, .inl (c_b, l_b, .inl g_b)), (q_d, .inl (c_b, 48, .inl g_d))]) [0, 1, 2] rfl
        have hDc := hD.sub (ws' := [(hp, .inr (7, [.ref q_b, .ref q_d, .int p_length, .int p_full])), (q_b, .inl (c_b, l_b, .inl g_b)), (q_d, .inl (c_b, 48, .inl g_d))]) [0, 1, 2] (by decide) rfl
        have hFc := va_free (wc := [(hp, .inr (7, [.ref q_b, .ref q_d, .int p_length, .int p_full])), (q_b, .inl (c_b, l_b, .inl g_b)), (q_d, .inl (c_b, 48, .inl g_d))]) hD hS hA [0, 1, 2] rfl
        have hKc := hK.sub (tys' := [(c_b, .byte)]) [0] rfl
        refine va_callv (va_runV (As := [.int (g_d (Int32.toNatClampNeg x3))]) (rest := []) ⟨hx, hb, hml, hown, htw⟩ (w270_met l dC dI H.size hp q_d c_b m59_7 s59_7 (g_d (Int32.toNatClampNeg x3)) q_b l_b p_length p_full g_b g_d _ hw) (cwV 1 htw (px_gv px_w1376 px_w1378 px_w1379 px_w88 px_g270) rfl rfl rfl (by decide +kernel) ⟨Nat.le_of_ble_eq_true rfl, Nat.le_of_ble_eq_true rfl⟩) ⟨fun a U g mk q => by obtain ⟨q0, q1, qP, qK, qD, qN⟩ := q; exact ⟨q0, q1, qP, va_K.moved (u := U) (U := U.calling g mk a) (Vm.Alike.refl U.vm) qK, qD, qN.same rfl⟩, va_recv hK hP (ci := 7) (q0 := 0) rfl rfl, fun U hU hW => ⟨rfl, by rw [hU], by rw [hU]; exact hPc, va_K.moved hW.alike hKc, hDc.weaken (fun _ _ _ _ => trivial), hN.warm hW⟩⟩ rfl rfl hl.1 rfl (lv_room (Nat.le_of_ble_eq_true rfl)) px_d331_59 ⟨hm59_7, hs59_7⟩) hS (fun q _ h => hFc q h) hFc (fun u t H1 locs ht hvm hw hB hz1 hk1 hS => ?_)
        obtain ⟨v1, v2, v3, v4, v5, v6⟩ := u
        obtain ⟨hP1, hK1, hD1⟩ := hB
        rw [ht] at hP1
        obtain ⟨hP, hD⟩ := va_join (wr := [(h0, .inr (3, [.long w0_low, .long w0_middle, .long w0_high]))]) (w1 := [(hp, .inr (7, [.ref v1, .ref q_d, .int v3, .int v4])), (v1, .inl (c_b, v2, .inl v5)), (q_d, .inl (c_b, 48, .inl v6))]) hP hD [0, 1, 2] [3] rfl rfl (by decide) (by decide) hk1 hFc hP1 hD1
        generalize H1 = H at hP hS ⊢
        have hP : va_P (dC, dI) vwCl [(h0, .inr (3, [.long w0_low, .long w0_middle, .long w0_high])), (hp, .inr (7, [.ref v1, .ref q_d, .int v3, .int v4])), (v1, .inl (c_b, v2, .inl v5)), (q_d, .inl (c_b, 48, .inl v6))] H := hP
        have hD : va_D A [(h0, .inr (3, [.long w0_low, .long w0_middle, .long w0_high])), (hp, .inr (7, [.ref v1, .ref q_d, .int v3, .int v4])), (v1, .inl (c_b, v2, .inl v5)), (q_d, .inl (c_b, 48, .inl v6))] := hD
        have hP := hP.sub (ws' := [(hp, .inr (7, [.ref v1, .ref q_d, .int v3, .int v4])), (v1, .inl (c_b, v2, .inl v5)), (q_d, .inl (c_b, 48, .inl v6)), (h0, .inr (3, [.long w0_low, .long w0_middle, .long w0_high]))]) [1, 2, 3, 0] rfl
        have hD := hD.sub (ws' := [(hp, .inr (7, [.ref v1, .ref q_d, .int v3, .int v4])), (v1, .inl (c_b, v2, .inl v5)), (q_d, .inl (c_b, 48, .inl v6)), (h0, .inr (3, [.long w0_low, .long w0_middle, .long w0_high]))]) [1, 2, 3, 0] (by decide) rfl
        obtain ⟨z9, ez9⟩ : ∃ y : Int32, y = x3 + (-1) := ⟨_, rfl⟩
        have hw := hw z9 ez9
        refine lv_iinc (v := z9) (lv' := [(3, .int z9), (0, .ref hp), (1, .ref h0), (2, .int x2)]) hx hb px_d331_62 hl (k := 3) rfl (by rw [ez9]; rfl) (by decide) rfl (fun ls hl => ?_)
        refine lv_goto (tgt := 48) hx hb px_d331_65 (by decide) ?_
        exact ih48 x2 z9 v1 v2 v3 v4 v5 v6 w0_low w0_middle w0_high (kc + m59_7) (ks + s59_7) H locs ls hm59_7 hs59_7 hP hD hS (lv_sub hl [1, 2, 3, 0] rfl) hw
  have S44 : ∀ (x2 : Int32) (x3 : Int32) (q_b : Nat) (l_b : Nat) (p_length : Int32) (p_full : Int32) (g_b : Nat → Int32) (g_d : Nat → Int32) (w0_low : Int64) (w0_middle : Int64) (w0_high : Int64) (kc : Nat) (ks : Nat) (H : Heap) (locs : List Loc) (ls : Array Slot), kc ≤ mc → ks ≤ ms → va_P (dC, dI) vwCl [(hp, .inr (7, [.ref q_b, .ref q_d, .int p_length, .int p_full])), (q_b, .inl (c_b, l_b, .inl g_b)), (q_d, .inl (c_b, 48, .inl g_d)), (h0, .inr (3, [.long w0_low, .long w0_middle, .long w0_high]))] H → va_D A [(hp, .inr (7, [.ref q_b, .ref q_d, .int p_length, .int p_full])), (q_b, .inl (c_b, l_b, .inl g_b)), (q_d, .inl (c_b, 48, .inl g_d)), (h0, .inr (3, [.long w0_low, .long w0_middle, .long w0_high]))] → va_S A s.heap H locs → lv_has ls 4 [(0, .ref hp), (1, .ref h0), (2, .int x2), (3, .int x3)] → w331_L44 mc ms post x2 x3 q_b l_b p_length p_full g_b g_d w0_low w0_middle w0_high kc ks → W p l e (headSpec px_s331 ({ frames := 3, cells := mc, slots := ms, locals := 64 })).room s m ([.ref hp, .ref h0]).toArray below meth c H locs kc ks Q (F0 m 44 ls []) := by
    intro x2 x3 q_b l_b p_length p_full g_b g_d w0_low w0_middle w0_high kc ks H locs ls hkc hks hP hD hS hl hw
    unfold w331_L44 at hw
    refine lv_iload_n hx hb px_d331_44 rfl (lv_at hl 2 rfl) ?_
    refine lv_iconst (v := 1) hx hb px_d331_45 (by decide) ?_
    refine lv_isub hx hb px_d331_46 ?_
    refine lv_topi (fun z10 ez10 => ?_)
    have hw := hw z10 ez10
    refine lv_istore_n (lv' := [(3, .int z10), (0, .ref hp), (1, .ref h0), (2, .int x2)]) hx hb px_d331_47 rfl hl (by decide) rfl (fun ls hl => ?_)
    obtain ⟨k9, hw⟩ := hw
    exact S48 k9 x2 z10 q_b l_b p_length p_full g_b g_d w0_low w0_middle w0_high kc ks H locs ls hkc hks hP hD hS (lv_sub hl [1, 2, 3, 0] rfl) hw
  have S4 : ∀ (k4 : Nat) (x2 : Int32) (x3 : Int32) (q_b : Nat) (l_b : Nat) (p_length : Int32) (p_full : Int32) (g_b : Nat → Int32) (g_d : Nat → Int32) (w0_low : Int64) (w0_middle : Int64) (w0_high : Int64) (kc : Nat) (ks : Nat) (H : Heap) (locs : List Loc) (ls : Array Slot), kc ≤ mc → ks ≤ ms → va_P (dC, dI) vwCl [(hp, .inr (7, [.ref q_b, .ref q_d, .int p_length, .int p_full])), (q_b, .inl (c_b, l_b, .inl g_b)), (q_d, .inl (c_b, 48, .inl g_d)), (h0, .inr (3, [.long w0_low, .long w0_middle, .long w0_high]))] H → va_D A [(hp, .inr (7, [.ref q_b, .ref q_d, .int p_length, .int p_full])), (q_b, .inl (c_b, l_b, .inl g_b)), (q_d, .inl (c_b, 48, .inl g_d)), (h0, .inr (3, [.long w0_low, .long w0_middle, .long w0_high]))] → va_S A s.heap H locs → lv_has ls 4 [(0, .ref hp), (1, .ref h0), (2, .int x2), (3, .int x3)] → w331_L4 mc ms post k4 x2 x3 q_b l_b p_length p_full g_b g_d w0_low w0_middle w0_high kc ks → W p l e (headSpec px_s331 ({ frames := 3, cells := mc, slots := ms, locals := 64 })).room s m ([.ref hp, .ref h0]).toArray below meth c H locs kc ks Q (F0 m 4 ls []) := by
    intro k4
    induction k4 with
    | zero => intro x2 x3 q_b l_b p_length p_full g_b g_d w0_low w0_middle w0_high kc ks H locs ls hkc hks hP hD hS hl hw; exact False.elim hw
    | succ k4 ih4 =>
      have S21 : ∀ (x2 : Int32) (x3 : Int32) (q_b : Nat) (l_b : Nat) (p_length : Int32) (p_full : Int32) (g_b : Nat → Int32) (g_d : Nat → Int32) (w0_low : Int64) (w0_middle : Int64) (w0_high : Int64) (kc : Nat) (ks : Nat) (H : Heap) (locs : List Loc) (ls : Array Slot), kc ≤ mc → ks ≤ ms → va_P (dC, dI) vwCl [(hp, .inr (7, [.ref q_b, .ref q_d, .int p_length, .int p_full])), (q_b, .inl (c_b, l_b, .inl g_b)), (q_d, .inl (c_b, 48, .inl g_d)), (h0, .inr (3, [.long w0_low, .long w0_middle, .long w0_high]))] H → va_D A [(hp, .inr (7, [.ref q_b, .ref q_d, .int p_length, .int p_full])), (q_b, .inl (c_b, l_b, .inl g_b)), (q_d, .inl (c_b, 48, .inl g_d)), (h0, .inr (3, [.long w0_low, .long w0_middle, .long w0_high]))] → va_S A s.heap H locs → lv_has ls 4 [(0, .ref hp), (1, .ref h0), (2, .int x2), (3, .int x3)] → w331_L21 (w331_L4 mc ms post k4) mc ms post x2 x3 q_b l_b p_length p_full g_b g_d w0_low w0_middle w0_high kc ks → W p l e (headSpec px_s331 ({ frames := 3, cells := mc, slots := ms, locals := 64 })).room s m ([.ref hp, .ref h0]).toArray below meth c H locs kc ks Q (F0 m 21 ls []) := by
        intro x2 x3 q_b l_b p_length p_full g_b g_d w0_low w0_middle w0_high kc ks H locs ls hkc hks hP hD hS hl hw
        unfold w331_L21 at hw
        refine lv_aload_n hx hb px_d331_21 rfl (lv_at hl 0 rfl) ?_
        refine va_get (D := (dC, dI)) (ci := 7) (v := .ref q_d) (C := "MatroidDesk$Product") (T := px_T7) (N := 4) hx hb htw px_in7 hown hK hP 0 rfl rfl 1 (by decide) (htw _ px_w233) (fun _ h9 => h9) rfl px_d331_22 ?_
        refine lv_iload_n hx hb px_d331_25 rfl (lv_at hl 3 rfl) ?_
        refine lv_bipush (v := 48) hx hb px_d331_26 (by decide) ?_
        refine lv_aload_n hx hb px_d331_28 rfl (lv_at hl 1 rfl) ?_
        have hPc := hP.sub (ws' := [(h0, .inr (3, [.long w0_low, .long w0_middle, .long w0_high]))]) [3] rfl
        have hDc := hD.sub (ws' := [(h0, .inr (3, [.long w0_low, .long w0_middle, .long w0_high]))]) [3] (by decide) rfl
        have hFc := va_free (wc := [(h0, .inr (3, [.long w0_low, .long w0_middle, .long w0_high]))]) hD hS hA [3] rfl
        have hKc := hK.sub (tys' := []) [] rfl
        refine va_calli (va_runV (As := []) (rest := [.int 48, .int x3, .ref q_d]) ⟨hx, hb, hml, hown, htw⟩ (w332_met l dC dI H.size h0 w0_low w0_middle w0_high _ hw) (cwV 0 htw (px_gv px_w1650 px_w1652 px_w1653 px_w41 px_g332) rfl rfl rfl (by decide +kernel) ⟨Nat.le_of_ble_eq_true rfl, Nat.le_of_ble_eq_true rfl⟩) ⟨fun a U g mk q => by obtain ⟨q0, q1, qP, qK, qD, qN⟩ := q; exact ⟨q0, q1, qP, va_K.moved (u := U) (U := U.calling g mk a) (Vm.Alike.refl U.vm) qK, qD, qN.same rfl⟩, va_recv hK hP (ci := 3) (q0 := 3) rfl rfl, fun U hU hW => ⟨rfl, by rw [hU], by rw [hU]; exact hPc, va_K.moved hW.alike hKc, hDc.weaken (fun _ _ _ _ => trivial), hN.warm hW⟩⟩ rfl rfl hl.1 rfl (lv_room (Nat.le_of_ble_eq_true rfl)) px_d331_29 ⟨hkc, hks⟩) hS (fun q _ h => hFc q h) hFc (fun r29 u t H1 locs ht hvm hw hB hz1 hk1 hS => ?_)
        obtain ⟨v11, v12, v13⟩ := u
        obtain ⟨hP1, hK1, hD1⟩ := hB
        rw [ht] at hP1
        obtain ⟨hP, hD⟩ := va_join (wr := [(hp, .inr (7, [.ref q_b, .ref q_d, .int p_length, .int p_full])), (q_b, .inl (c_b, l_b, .inl g_b)), (q_d, .inl (c_b, 48, .inl g_d))]) (w1 := [(h0, .inr (3, [.long v11, .long v12, .long v13]))]) hP hD [3] [0, 1, 2] rfl rfl (by decide) (by decide) hk1 hFc hP1 hD1
        generalize H1 = H at hP hS ⊢
        have hP : va_P (dC, dI) vwCl [(hp, .inr (7, [.ref q_b, .ref q_d, .int p_length, .int p_full])), (q_b, .inl (c_b, l_b, .inl g_b)), (q_d, .inl (c_b, 48, .inl g_d)), (h0, .inr (3, [.long v11, .long v12, .long v13]))] H := hP
        have hD : va_D A [(hp, .inr (7, [.ref q_b, .ref q_d, .int p_length, .int p_full])), (q_b, .inl (c_b, l_b, .inl g_b)), (q_d, .inl (c_b, 48, .inl g_d)), (h0, .inr (3, [.long v11, .long v12, .long v13]))] := hD
        refine lv_iadd hx hb px_d331_32 ?_
        refine lv_i2b (v := (48 + r29).toInt8.toInt32) hx hb px_d331_33 rfl ?_
        obtain ⟨hi34, hw⟩ := hw
        refine va_bast hx hb hK hP hD hS 2 0 rfl rfl hi34 px_d331_34 (fun H locs hP hD hS => ?_)
        have hP : va_P (dC, dI) vwCl [(hp, .inr (7, [.ref q_b, .ref q_d, .int p_length, .int p_full])), (q_b, .inl (c_b, l_b, .inl g_b)), (q_d, .inl (c_b, 48, .inl (upd g_d (Int32.toNatClampNeg x3) (vp_nar .byte ((48 + r29).toInt8.toInt32))))), (h0, .inr (3, [.long v11, .long v12, .long v13]))] H := hP
        have hD : va_D A [(hp, .inr (7, [.ref q_b, .ref q_d, .int p_length, .int p_full])), (q_b, .inl (c_b, l_b, .inl g_b)), (q_d, .inl (c_b, 48, .inl (upd g_d (Int32.toNatClampNeg x3) (vp_nar .byte ((48 + r29).toInt8.toInt32))))), (h0, .inr (3, [.long v11, .long v12, .long v13]))] := hD
        obtain ⟨z15, ez15⟩ : ∃ y : Int32, y = x2 + 1 := ⟨_, rfl⟩
        have hw := hw z15 ez15
        refine lv_iinc (v := z15) (lv' := [(2, .int z15), (0, .ref hp), (1, .ref h0), (3, .int x3)]) hx hb px_d331_35 hl (k := 2) rfl (by rw [ez15]; rfl) (by decide) rfl (fun ls hl => ?_)
        obtain ⟨z16, ez16⟩ : ∃ y : Int32, y = x3 + 1 := ⟨_, rfl⟩
        have hw := hw z16 ez16
        refine lv_iinc (v := z16) (lv' := [(3, .int z16), (2, .int z15), (0, .ref hp), (1, .ref h0)]) hx hb px_d331_38 hl (k := 3) rfl (by rw [ez16]; rfl) (by decide) rfl (fun ls hl => ?_)
        refine lv_goto (tgt := 4) hx hb px_d331_41 (by decide) ?_
        exact ih4 z15 z16 q_b l_b p_length p_full g_b (upd g_d (Int32.toNatClampNeg x3) (vp_nar .byte ((48 + r29).toInt8.toInt32))) v11 v12 v13 kc ks H locs ls hkc hks hP hD hS (lv_sub hl [2, 3, 1, 0] rfl) hw
      intro x2 x3 q_b l_b p_length p_full g_b g_d w0_low w0_middle w0_high kc ks H locs ls hkc hks hP hD hS hl hw
      unfold w331_L4 at hw
      refine lv_iload_n hx hb px_d331_4 rfl (lv_at hl 3 rfl) ?_
      refine lv_bipush (v := 48) hx hb px_d331_5 (by decide) ?_
      refine lv_icmp_ge (tgt := 44) hx hb px_d331_7 (by decide) (fun c7 => ?_) (fun c7 => ?_)
      · have hw := hw.1 c7
        exact S44 x2 x3 q_b l_b p_length p_full g_b g_d w0_low w0_middle w0_high kc ks H locs ls hkc hks hP hD hS (lv_sub hl [0, 1, 2, 3] rfl) hw
      · have hw := hw.2 c7
        refine lv_iload_n hx hb px_d331_10 rfl (lv_at hl 3 rfl) ?_
        refine lv_if_eq (tgt := 21) hx hb px_d331_11 (by decide) (fun c11 => ?_) (fun c11 => ?_)
        · have hw := hw.1 c11
          exact S21 x2 x3 q_b l_b p_length p_full g_b g_d w0_low w0_middle w0_high kc ks H locs ls hkc hks hP hD hS (lv_sub hl [0, 1, 2, 3] rfl) hw
        · have hw := hw.2 c11
          refine lv_aload_n hx hb px_d331_14 rfl (lv_at hl 1 rfl) ?_
          have hPc := hP.sub (ws' := [(h0, .inr (3, [.long w0_low, .long w0_middle, .long w0_high]))]) [3] rfl
          have hDc := hD.sub (ws' := [(h0, .inr (3, [.long w0_low, .long w0_middle, .long w0_high]))]) [3] (by decide) rfl
          have hFc := va_free (wc := [(h0, .inr (3, [.long w0_low, .long w0_middle, .long w0_high]))]) hD hS hA [3] rfl
          have hKc := hK.sub (tys' := []) [] rfl
          refine va_calli (va_runV (As := []) (rest := []) ⟨hx, hb, hml, hown, htw⟩ (w318_met l dC dI H.size h0 w0_low w0_middle w0_high _ hw) (cwV 0 htw (px_gv px_w1649 px_w1597 px_w1598 px_w41 px_g318) rfl rfl rfl (by decide +kernel) ⟨Nat.le_of_ble_eq_true rfl, Nat.le_of_ble_eq_true rfl⟩) ⟨fun a U g mk q => by obtain ⟨q0, q1, qP, qK, qD, qN⟩ := q; exact ⟨q0, q1, qP, va_K.moved (u := U) (U := U.calling g mk a) (Vm.Alike.refl U.vm) qK, qD, qN.same rfl⟩, va_recv hK hP (ci := 3) (q0 := 3) rfl rfl, fun U hU hW => ⟨rfl, by rw [hU], by rw [hU]; exact hPc, va_K.moved hW.alike hKc, hDc.weaken (fun _ _ _ _ => trivial), hN.warm hW⟩⟩ rfl rfl hl.1 rfl (lv_room (Nat.le_of_ble_eq_true rfl)) px_d331_15 ⟨hkc, hks⟩) hS (fun q _ h => hFc q h) hFc (fun r15 u t H1 locs ht hvm hw hB hz1 hk1 hS => ?_)
          obtain ⟨v17, v18, v19⟩ := u
          obtain ⟨hP1, hK1, hD1⟩ := hB
          rw [ht] at hP1
          obtain ⟨hP, hD⟩ := va_join (wr := [(hp, .inr (7, [.ref q_b, .ref q_d, .int p_length, .int p_full])), (q_b, .inl (c_b, l_b, .inl g_b)), (q_d, .inl (c_b, 48, .inl g_d))]) (w1 := [(h0, .inr (3, [.long v17, .long v18, .long v19]))]) hP hD [3] [0, 1, 2] rfl rfl (by decide) (by decide) hk1 hFc hP1 hD1
          generalize H1 = H at hP hS ⊢
          have hP : va_P (dC, dI) vwCl [(hp, .inr (7, [.ref q_b, .ref q_d, .int p_length, .int p_full])), (q_b, .inl (c_b, l_b, .inl g_b)), (q_d, .inl (c_b, 48, .inl g_d)), (h0, .inr (3, [.long v17, .long v18, .long v19]))] H := hP
          have hD : va_D A [(hp, .inr (7, [.ref q_b, .ref q_d, .int p_length, .int p_full])), (q_b, .inl (c_b, l_b, .inl g_b)), (q_d, .inl (c_b, 48, .inl g_d)), (h0, .inr (3, [.long v17, .long v18, .long v19]))] := hD
          refine lv_if_ne (tgt := 44) hx hb px_d331_18 (by decide) (fun c18 => ?_) (fun c18 => ?_)
          · have hw := hw.1 c18
            exact S44 x2 x3 q_b l_b p_length p_full g_b g_d v17 v18 v19 kc ks H locs ls hkc hks hP hD hS (lv_sub hl [0, 1, 2, 3] rfl) hw
          · have hw := hw.2 c18
            exact S21 x2 x3 q_b l_b p_length p_full g_b g_d v17 v18 v19 kc ks H locs ls hkc hks hP hD hS (lv_sub hl [0, 1, 2, 3] rfl) hw
  unfold w331_wp at hw
  have hS0 := hS
  obtain ⟨H, hH9⟩ : ∃ z, z = s.heap := ⟨_, rfl⟩
  have hP : va_P (dC, dI) vwCl [(hp, .inr (7, [.ref q_b, .ref q_d, .int p_length, .int p_full])), (q_b, .inl (c_b, l_b, .inl g_b)), (q_d, .inl (c_b, 48, .inl g_d)), (h0, .inr (3, [.long w0_low, .long w0_middle, .long w0_high]))] H := by rw [hH9]; exact hP
  obtain ⟨locs, hlo9⟩ : ∃ z : List Loc, z = [] := ⟨_, rfl⟩
  have hS : va_S A s.heap H locs := by rw [hH9, hlo9]; exact hS
  suffices hG : W p l e (headSpec px_s331 ({ frames := 3, cells := mc, slots := ms, locals := 64 })).room s m ([.ref hp, .ref h0]).toArray below meth c H locs 0 0 Q (F0 m 0 ls []) by rw [hH9, hlo9] at hG; exact hG
  refine lv_iconst (v := 0) hx hb px_d331_0 (by decide) ?_
  refine lv_istore_n (lv' := [(2, .int 0), (0, .ref hp), (1, .ref h0)]) hx hb px_d331_1 rfl hl (by decide) rfl (fun ls hl => ?_)
  refine lv_iconst (v := 0) hx hb px_d331_2 (by decide) ?_
  refine lv_istore_n (lv' := [(3, .int 0), (2, .int 0), (0, .ref hp), (1, .ref h0)]) hx hb px_d331_3 rfl hl (by decide) rfl (fun ls hl => ?_)
  obtain ⟨k9, hw⟩ := hw
  exact S4 k9 0 0 q_b l_b p_length p_full g_b g_d w0_low w0_middle w0_high 0 0 H locs ls (Nat.zero_le mc) (Nat.zero_le ms) hP hD hS (lv_sub hl [2, 3, 1, 0] rfl) hw

/-! MatroidDesk$Product.mark(I)V -/
def w291_L21 (mc : Nat) (ms : Nat) (post : Nat → Nat → Int32 → Int32 → (Nat → Int32) → (Nat → Int32) → Prop) (x1 : Int32) (y0 : Int32) (q_b : Nat) (l_b : Nat) (p_length : Int32) (p_full : Int32) (g_b : Nat → Int32) (g_d : Nat → Int32) (kc : Nat) (ks : Nat) : Prop := ∃ m21_7 s21_7 : Nat, kc + m21_7 ≤ mc ∧ ks + s21_7 ≤ ms ∧ (w270_wp m21_7 s21_7 (fun v1 v2 v3 v4 v5 v6 => post v1 v2 v3 v4 v5 v6) y0 q_b l_b p_length p_full g_b g_d)
def w291_wp (mc : Nat) (ms : Nat) (post : Nat → Nat → Int32 → Int32 → (Nat → Int32) → (Nat → Int32) → Prop) (a1x : Int32) (q_b : Nat) (l_b : Nat) (p_length : Int32) (p_full : Int32) (g_b : Nat → Int32) (g_d : Nat → Int32) : Prop := (¬ a1x = 0 → (0 ≤ a1x → w291_L21 mc ms post a1x 43 q_b l_b p_length p_full g_b g_d 0 0) ∧ (¬ 0 ≤ a1x → w291_L21 mc ms post a1x 45 q_b l_b p_length p_full g_b g_d 0 0)) ∧ (a1x = 0 → w291_L21 mc ms post a1x 48 q_b l_b p_length p_full g_b g_d 0 0)
set_option maxHeartbeats 8000000 in
set_option maxRecDepth 100000 in
theorem w291_met (l : Launch) (dC : Nat → ClassId) (dI : Nat → Nat → Nat) (sz : Nat) (hp : Nat) (q_d : Nat) (c_b : ClassId) (mc : Nat) (ms : Nat) (a1x : Int32) (q_b : Nat) (l_b : Nat) (p_length : Int32) (p_full : Int32) (g_b : Nat → Int32) (g_d : Nat → Int32) (post : Nat → Nat → Int32 → Int32 → (Nat → Int32) → (Nat → Int32) → Prop) (hw : w291_wp mc ms post a1x q_b l_b p_length p_full g_b g_d) : Met l px_y291 px_s291 ({ frames := 3, cells := mc, slots := ms, locals := 64 }) (va_Pc [.ref hp, .int a1x] (fun U => U.heap.size = sz ∧ va_P (dC, dI) vwCl [(hp, .inr (7, [.ref q_b, .ref q_d, .int p_length, .int p_full])), (q_b, .inl (c_b, l_b, .inl g_b)), (q_d, .inl (c_b, 48, .inl g_d))] U.heap ∧ va_K (dC, dI) vwCl [(c_b, .byte)] U ∧ va_D (fun _ => True) [(hp, .inr (7, [.ref q_b, .ref q_d, .int p_length, .int p_full])), (q_b, .inl (c_b, l_b, .inl g_b)), (q_d, .inl (c_b, 48, .inl g_d))] ∧ px_N U)) (va_Qv (fun (u : Nat × Nat × Int32 × Int32 × (Nat → Int32) × (Nat → Int32)) => post u.1 u.2.1 u.2.2.1 u.2.2.2.1 u.2.2.2.2.1 u.2.2.2.2.2) (fun (u : Nat × Nat × Int32 × Int32 × (Nat → Int32) × (Nat → Int32)) (t : State) => va_P (dC, dI) vwCl [(hp, .inr (7, [.ref u.1, .ref q_d, .int u.2.2.1, .int u.2.2.2.1])), (u.1, .inl (c_b, u.2.1, .inl u.2.2.2.2.1)), (q_d, .inl (c_b, 48, .inl u.2.2.2.2.2))] t.heap ∧ va_K (dC, dI) vwCl [(c_b, .byte)] t ∧ va_D (va_A [(hp, .inr (7, [.ref q_b, .ref q_d, .int p_length, .int p_full])), (q_b, .inl (c_b, l_b, .inl g_b)), (q_d, .inl (c_b, 48, .inl g_d))] sz) [(hp, .inr (7, [.ref u.1, .ref q_d, .int u.2.2.1, .int u.2.2.2.1])), (u.1, .inl (c_b, u.2.1, .inl u.2.2.2.2.1)), (q_d, .inl (c_b, 48, .inl u.2.2.2.2.2))]) (va_A [(hp, .inr (7, [.ref q_b, .ref q_d, .int p_length, .int p_full])), (q_b, .inl (c_b, l_b, .inl g_b)), (q_d, .inl (c_b, 48, .inl g_d))] sz)) mc ms (va_A [(hp, .inr (7, [.ref q_b, .ref q_d, .int p_length, .int p_full])), (q_b, .inl (c_b, l_b, .inl g_b)), (q_d, .inl (c_b, 48, .inl g_d))] sz) := by
  refine Met.ofW (cc := prog_7_method_7_code) (maxL := 2) (ret := none) (by decide) rfl ?_
  intro p e s m args below meth c s₁ B hml hv
  obtain ⟨rfl, hsz, hP, hK, hD0, hN⟩ := hv
  have hx := B.exec
  have hb := B.bytes
  have hr := B.returns
  have htw : ∀ w ∈ px_all, w.before _ s = true := fun w h => atoms_spec (ws := px_s291) B.pre w (List.mem_cons_of_mem _ h)
  have hown : s.vm.findClass "MatroidDesk$Product" = some m.cls := findClass_of_methodNamed B.named
  have hlocks := B.notSynchronized
  subst hsz
  have hD := hD0.self (sz := s.heap.size)
  generalize hAe : va_A [(hp, .inr (7, [.ref q_b, .ref q_d, .int p_length, .int p_full])), (q_b, .inl (c_b, l_b, .inl g_b)), (q_d, .inl (c_b, 48, .inl g_d))] s.heap.size = A at hD ⊢
  have hA : ∀ q : Nat, s.heap.size ≤ q → A q := fun q h => by rw [← hAe]; exact Or.inr h
  have hS : va_S A s.heap s.heap [] := va_S.rf
  have hP : va_P (dC, dI) vwCl [(hp, .inr (7, [.ref q_b, .ref q_d, .int p_length, .int p_full])), (q_b, .inl (c_b, l_b, .inl g_b)), (q_d, .inl (c_b, 48, .inl g_d))] s.heap := hP
  have hl := lv_entry ([.ref hp, .int a1x]) (n := 2) (Nat.le_of_ble_eq_true rfl)
  rw [lg_entry_eq]
  generalize (lg_sl ([.ref hp, .int a1x]) ++ List.replicate (2 - (lg_sl ([.ref hp, .int a1x])).length) Slot.unset).toArray = ls at hl ⊢
  have hl : lv_has ls 2 [(0, .ref hp), (1, .int a1x)] := hl
  generalize hQ : MQ _ _ _ _ _ _ _ = Q
  have S21 : ∀ (x1 : Int32) (y0 : Int32) (q_b : Nat) (l_b : Nat) (p_length : Int32) (p_full : Int32) (g_b : Nat → Int32) (g_d : Nat → Int32) (kc : Nat) (ks : Nat) (H : Heap) (locs : List Loc) (ls : Array Slot), kc ≤ mc → ks ≤ ms → va_P (dC, dI) vwCl [(hp, .inr (7, [.ref q_b, .ref q_d, .int p_length, .int p_full])), (q_b, .inl (c_b, l_b, .inl g_b)), (q_d, .inl (c_b, 48, .inl g_d))] H → va_D A [(hp, .inr (7, [.ref q_b, .ref q_d, .int p_length, .int p_full])), (q_b, .inl (c_b, l_b, .inl g_b)), (q_d, .inl (c_b, 48, .inl g_d))] → va_S A s.heap H locs → lv_has ls 2 [(0, .ref hp), (1, .int x1)] → w291_L21 mc ms post x1 y0 q_b l_b p_length p_full g_b g_d kc ks → W p l e (headSpec px_s291 ({ frames := 3, cells := mc, slots := ms, locals := 64 })).room s m ([.ref hp, .int a1x]).toArray below meth c H locs kc ks Q (F0 m 21 ls [.int y0, .ref hp]) := by
    intro x1 y0 q_b l_b p_length p_full g_b g_d kc ks H locs ls hkc hks hP hD hS hl hw
    unfold w291_L21 at hw
    obtain ⟨m21_7, s21_7, hm21_7, hs21_7, hw⟩ := hw
    have hPc := hP.sub (ws' := [(hp, .inr (7, [.ref q_b, .ref q_d, .int p_length, .int p_full])), (q_b, .inl (c_b, l_b, .inl g_b)), (q_d, .inl (c_b, 48, .inl g_d))]) [0, 1, 2] rfl
    have hDc := hD.sub (ws' := [(hp, .inr (7, [.ref q_b, .ref q_d, .int p_length, .int p_full])), (q_b, .inl (c_b, l_b, .inl g_b)), (q_d, .inl (c_b, 48, .inl g_d))]) [0, 1, 2] (by decide) rfl
    have hFc := va_free (wc := [(hp, .inr (7, [.ref q_b, .ref q_d, .int p_length, .int p_full])), (q_b, .inl (c_b, l_b, .inl g_b)), (q_d, .inl (c_b, 48, .inl g_d))]) hD hS hA [0, 1, 2] rfl
    have hKc := hK.sub (tys' := [(c_b, .byte)]) [0] rfl
    refine va_callv (va_runV (As := [.int y0]) (rest := []) ⟨hx, hb, hml, hown, htw⟩ (w270_met l dC dI H.size hp q_d c_b m21_7 s21_7 y0 q_b l_b p_length p_full g_b g_d _ hw) (cwV 1 htw (px_gv px_w1376 px_w1378 px_w1379 px_w88 px_g270) rfl rfl rfl (by decide +kernel) ⟨Nat.le_of_ble_eq_true rfl, Nat.le_of_ble_eq_true rfl⟩) ⟨fun a U g mk q => by obtain ⟨q0, q1, qP, qK, qD, qN⟩ := q; exact ⟨q0, q1, qP, va_K.moved (u := U) (U := U.calling g mk a) (Vm.Alike.refl U.vm) qK, qD, qN.same rfl⟩, va_recv hK hP (ci := 7) (q0 := 0) rfl rfl, fun U hU hW => ⟨rfl, by rw [hU], by rw [hU]; exact hPc, va_K.moved hW.alike hKc, hDc.weaken (fun _ _ _ _ => trivial), hN.warm hW⟩⟩ rfl rfl hl.1 rfl (lv_room (Nat.le_of_ble_eq_true rfl)) px_d291_21 ⟨hm21_7, hs21_7⟩) hS (fun q _ h => hFc q h) hFc (fun u t H1 locs ht hvm hw hB hz1 hk1 hS => ?_)
    obtain ⟨v1, v2, v3, v4, v5, v6⟩ := u
    obtain ⟨hP1, hK1, hD1⟩ := hB
    rw [ht] at hP1
    obtain ⟨hP, hD⟩ := va_join (wr := []) (w1 := [(hp, .inr (7, [.ref v1, .ref q_d, .int v3, .int v4])), (v1, .inl (c_b, v2, .inl v5)), (q_d, .inl (c_b, 48, .inl v6))]) hP hD [0, 1, 2] [] rfl rfl (by decide) (by decide) hk1 hFc hP1 hD1
    generalize H1 = H at hP hS ⊢
    have hP : va_P (dC, dI) vwCl [(hp, .inr (7, [.ref v1, .ref q_d, .int v3, .int v4])), (v1, .inl (c_b, v2, .inl v5)), (q_d, .inl (c_b, 48, .inl v6))] H := hP
    have hD : va_D A [(hp, .inr (7, [.ref v1, .ref q_d, .int v3, .int v4])), (v1, .inl (c_b, v2, .inl v5)), (q_d, .inl (c_b, 48, .inl v6))] := hD
    refine W.widen (k := mc) (n := ms) hm21_7 hs21_7 ?_
    rw [← hQ]
    exact W.vret hx hb hr (fun t ht hW => ⟨⟨(v1, v2, v3, v4, v5, v6), rfl, hw, by rw [ht]; exact hP, va_K.moved hW.alike hK, hD⟩, hS.F ht⟩) hS.2.2 px_d291_24
  unfold w291_wp at hw
  have hS0 := hS
  obtain ⟨H, hH9⟩ : ∃ z, z = s.heap := ⟨_, rfl⟩
  have hP : va_P (dC, dI) vwCl [(hp, .inr (7, [.ref q_b, .ref q_d, .int p_length, .int p_full])), (q_b, .inl (c_b, l_b, .inl g_b)), (q_d, .inl (c_b, 48, .inl g_d))] H := by rw [hH9]; exact hP
  obtain ⟨locs, hlo9⟩ : ∃ z : List Loc, z = [] := ⟨_, rfl⟩
  have hS : va_S A s.heap H locs := by rw [hH9, hlo9]; exact hS
  suffices hG : W p l e (headSpec px_s291 ({ frames := 3, cells := mc, slots := ms, locals := 64 })).room s m ([.ref hp, .int a1x]).toArray below meth c H locs 0 0 Q (F0 m 0 ls []) by rw [hH9, hlo9] at hG; exact hG
  refine lv_aload_n hx hb px_d291_0 rfl (lv_at hl 0 rfl) ?_
  refine lv_iload_n hx hb px_d291_1 rfl (lv_at hl 1 rfl) ?_
  refine lv_if_ne (tgt := 10) hx hb px_d291_2 (by decide) (fun c2 => ?_) (fun c2 => ?_)
  · have hw := hw.1 c2
    refine lv_iload_n hx hb px_d291_10 rfl (lv_at hl 1 rfl) ?_
    refine lv_if_ge (tgt := 19) hx hb px_d291_11 (by decide) (fun c11 => ?_) (fun c11 => ?_)
    · have hw := hw.1 c11
      refine lv_bipush (v := 43) hx hb px_d291_19 (by decide) ?_
      exact S21 a1x 43 q_b l_b p_length p_full g_b g_d 0 0 H locs ls (Nat.zero_le mc) (Nat.zero_le ms) hP hD hS (lv_sub hl [0, 1] rfl) hw
    · have hw := hw.2 c11
      refine lv_bipush (v := 45) hx hb px_d291_14 (by decide) ?_
      refine lv_goto (tgt := 21) hx hb px_d291_16 (by decide) ?_
      exact S21 a1x 45 q_b l_b p_length p_full g_b g_d 0 0 H locs ls (Nat.zero_le mc) (Nat.zero_le ms) hP hD hS (lv_sub hl [0, 1] rfl) hw
  · have hw := hw.2 c2
    refine lv_bipush (v := 48) hx hb px_d291_5 (by decide) ?_
    refine lv_goto (tgt := 21) hx hb px_d291_7 (by decide) ?_
    exact S21 a1x 48 q_b l_b p_length p_full g_b g_d 0 0 H locs ls (Nat.zero_le mc) (Nat.zero_le ms) hP hD hS (lv_sub hl [0, 1] rfl) hw

/-! MatroidDesk$Product.text(Ljava/lang/String;)V -/
def w278_L2 (mc : Nat) (ms : Nat) (a1x : Nat) (post : Nat → Nat → Int32 → Int32 → (Nat → Int32) → (Nat → Int32) → Prop) : Nat → Int32 → Nat → Nat → Int32 → Int32 → (Nat → Int32) → (Nat → Int32) → Nat → Nat → Prop
  | 0 => fun _ _ _ _ _ _ _ _ _ => False
  | k + 1 => fun x2 q_b l_b p_length p_full g_b g_d kc ks => a1x < px_qn ∧ (w149_wp a1x (fun r4  => (r4 ≤ x2 → post q_b l_b p_length p_full g_b g_d) ∧ (¬ r4 ≤ x2 → a1x < px_qn ∧ (w151_wp a1x (fun r13  => ∃ m16_9 s16_9 : Nat, kc + m16_9 ≤ mc ∧ ks + s16_9 ≤ ms ∧ (w270_wp m16_9 s16_9 (fun v3 v4 v5 v6 v7 v8 => ∀ z11 : Int32, z11 = x2 + 1 → (w278_L2 mc ms a1x post k) z11 v3 v4 v5 v6 v7 v8 (kc + m16_9) (ks + s16_9)) r13 q_b l_b p_length p_full g_b g_d)) x2))) )
def w278_wp (mc : Nat) (ms : Nat) (a1x : Nat) (post : Nat → Nat → Int32 → Int32 → (Nat → Int32) → (Nat → Int32) → Prop) (q_b : Nat) (l_b : Nat) (p_length : Int32) (p_full : Int32) (g_b : Nat → Int32) (g_d : Nat → Int32) : Prop := ∃ j2, w278_L2 mc ms a1x post j2 0 q_b l_b p_length p_full g_b g_d 0 0
set_option maxHeartbeats 8000000 in
set_option maxRecDepth 100000 in
theorem w278_met (l : Launch) (dC : Nat → ClassId) (dI : Nat → Nat → Nat) (sz : Nat) (adK : Nat → Nat) (adV : Nat → Nat) (bo : Option Nat) (adB : Nat → Nat) (tA : Nat) (tS : Nat) (hp : Nat) (q_d : Nat) (c_b : ClassId) (mc : Nat) (ms : Nat) (a1x : Nat) (q_b : Nat) (l_b : Nat) (p_length : Int32) (p_full : Int32) (g_b : Nat → Int32) (g_d : Nat → Int32) (post : Nat → Nat → Int32 → Int32 → (Nat → Int32) → (Nat → Int32) → Prop) (hw : w278_wp mc ms a1x post q_b l_b p_length p_full g_b g_d) : Met l px_y278 px_s278 ({ frames := 4, cells := mc, slots := ms, locals := 85 }) (va_Pc [.ref hp, .ref (adK a1x)] (fun U => U.heap.size = sz ∧ va_P (dC, dI) vwCl [(hp, .inr (7, [.ref q_b, .ref q_d, .int p_length, .int p_full])), (q_b, .inl (c_b, l_b, .inl g_b)), (q_d, .inl (c_b, 48, .inl g_d))] U.heap ∧ va_K (dC, dI) vwCl [(c_b, .byte)] U ∧ va_D (fun _ => True) [(hp, .inr (7, [.ref q_b, .ref q_d, .int p_length, .int p_full])), (q_b, .inl (c_b, l_b, .inl g_b)), (q_d, .inl (c_b, 48, .inl g_d))] ∧ px_N U ∧ px_E adK adV bo adB tA tS (va_A [(hp, .inr (7, [.ref q_b, .ref q_d, .int p_length, .int p_full])), (q_b, .inl (c_b, l_b, .inl g_b)), (q_d, .inl (c_b, 48, .inl g_d))] sz) U U.heap)) (va_Qv (fun (u : Nat × Nat × Int32 × Int32 × (Nat → Int32) × (Nat → Int32)) => post u.1 u.2.1 u.2.2.1 u.2.2.2.1 u.2.2.2.2.1 u.2.2.2.2.2) (fun (u : Nat × Nat × Int32 × Int32 × (Nat → Int32) × (Nat → Int32)) (t : State) => va_P (dC, dI) vwCl [(hp, .inr (7, [.ref u.1, .ref q_d, .int u.2.2.1, .int u.2.2.2.1])), (u.1, .inl (c_b, u.2.1, .inl u.2.2.2.2.1)), (q_d, .inl (c_b, 48, .inl u.2.2.2.2.2))] t.heap ∧ va_K (dC, dI) vwCl [(c_b, .byte)] t ∧ va_D (va_A [(hp, .inr (7, [.ref q_b, .ref q_d, .int p_length, .int p_full])), (q_b, .inl (c_b, l_b, .inl g_b)), (q_d, .inl (c_b, 48, .inl g_d))] sz) [(hp, .inr (7, [.ref u.1, .ref q_d, .int u.2.2.1, .int u.2.2.2.1])), (u.1, .inl (c_b, u.2.1, .inl u.2.2.2.2.1)), (q_d, .inl (c_b, 48, .inl u.2.2.2.2.2))]) (va_A [(hp, .inr (7, [.ref q_b, .ref q_d, .int p_length, .int p_full])), (q_b, .inl (c_b, l_b, .inl g_b)), (q_d, .inl (c_b, 48, .inl g_d))] sz)) mc ms (va_A [(hp, .inr (7, [.ref q_b, .ref q_d, .int p_length, .int p_full])), (q_b, .inl (c_b, l_b, .inl g_b)), (q_d, .inl (c_b, 48, .inl g_d))] sz) := by
  refine Met.ofW (cc := prog_7_method_4_code) (maxL := 3) (ret := none) (by decide) rfl ?_
  intro p e s m args below meth c s₁ B hml hv
  obtain ⟨rfl, hsz, hP, hK, hD0, hN, hE0⟩ := hv
  have hx := B.exec
  have hb := B.bytes
  have hr := B.returns
  have htw : ∀ w ∈ px_all, w.before _ s = true := fun w h => atoms_spec (ws := px_s278) B.pre w (List.mem_cons_of_mem _ h)
  have hown : s.vm.findClass "MatroidDesk$Product" = some m.cls := findClass_of_methodNamed B.named
  have hlocks := B.notSynchronized
  subst hsz
  have hD := hD0.self (sz := s.heap.size)
  generalize hAe : va_A [(hp, .inr (7, [.ref q_b, .ref q_d, .int p_length, .int p_full])), (q_b, .inl (c_b, l_b, .inl g_b)), (q_d, .inl (c_b, 48, .inl g_d))] s.heap.size = A at hD hE0 ⊢
  have hA : ∀ q : Nat, s.heap.size ≤ q → A q := fun q h => by rw [← hAe]; exact Or.inr h
  have hS : va_S A s.heap s.heap [] := va_S.rf
  have hP : va_P (dC, dI) vwCl [(hp, .inr (7, [.ref q_b, .ref q_d, .int p_length, .int p_full])), (q_b, .inl (c_b, l_b, .inl g_b)), (q_d, .inl (c_b, 48, .inl g_d))] s.heap := hP
  have hl := lv_entry ([.ref hp, .ref (adK a1x)]) (n := 3) (Nat.le_of_ble_eq_true rfl)
  rw [lg_entry_eq]
  generalize (lg_sl ([.ref hp, .ref (adK a1x)]) ++ List.replicate (3 - (lg_sl ([.ref hp, .ref (adK a1x)])).length) Slot.unset).toArray = ls at hl ⊢
  have hl : lv_has ls 3 [(0, .ref hp), (1, .ref (adK a1x))] := hl
  generalize hQ : MQ _ _ _ _ _ _ _ = Q
  have S2 : ∀ (k2 : Nat) (x2 : Int32) (q_b : Nat) (l_b : Nat) (p_length : Int32) (p_full : Int32) (g_b : Nat → Int32) (g_d : Nat → Int32) (kc : Nat) (ks : Nat) (H : Heap) (locs : List Loc) (ls : Array Slot), kc ≤ mc → ks ≤ ms → va_P (dC, dI) vwCl [(hp, .inr (7, [.ref q_b, .ref q_d, .int p_length, .int p_full])), (q_b, .inl (c_b, l_b, .inl g_b)), (q_d, .inl (c_b, 48, .inl g_d))] H → va_D A [(hp, .inr (7, [.ref q_b, .ref q_d, .int p_length, .int p_full])), (q_b, .inl (c_b, l_b, .inl g_b)), (q_d, .inl (c_b, 48, .inl g_d))] → va_S A s.heap H locs → lv_has ls 3 [(0, .ref hp), (1, .ref (adK a1x)), (2, .int x2)] → w278_L2 mc ms a1x post k2 x2 q_b l_b p_length p_full g_b g_d kc ks → W p l e (headSpec px_s278 ({ frames := 4, cells := mc, slots := ms, locals := 85 })).room s m ([.ref hp, .ref (adK a1x)]).toArray below meth c H locs kc ks Q (F0 m 2 ls []) := by
    intro k2
    induction k2 with
    | zero => intro x2 q_b l_b p_length p_full g_b g_d kc ks H locs ls hkc hks hP hD hS hl hw; exact False.elim hw
    | succ k2 ih2 =>
      intro x2 q_b l_b p_length p_full g_b g_d kc ks H locs ls hkc hks hP hD hS hl hw
      unfold w278_L2 at hw
      refine lv_iload_n hx hb px_d278_2 rfl (lv_at hl 2 rfl) ?_
      refine lv_aload_n hx hb px_d278_3 rfl (lv_at hl 1 rfl) ?_
      obtain ⟨hp4, hw⟩ := hw
      have hPc := hP.sub (ws' := []) [] rfl
      have hDc := hD.sub (ws' := []) [] (by decide) rfl
      have hFc := va_free (wc := []) hD hS hA [] rfl
      have hKc := hK.sub (tys' := []) [] rfl
      refine va_calli (va_runV (As := []) (rest := [.int x2]) ⟨hx, hb, hml, hown, htw⟩ (w149_met l dC dI H.size adK adV bo adB tA tS a1x _ hw) (cwV 0 htw (px_gv px_w1414 px_w886 px_w887 px_w1756 px_g149) rfl rfl rfl (by decide +kernel) ⟨Nat.le_of_ble_eq_true rfl, Nat.le_of_ble_eq_true rfl⟩) ⟨fun a U g mk q => by obtain ⟨q0, q1, qP, qK, qD, qN, qE0⟩ := q; exact ⟨q0, q1, qP, va_K.moved (u := U) (U := U.calling g mk a) (Vm.Alike.refl U.vm) qK, qD, qN.same rfl, qE0.same rfl⟩, vk_recv hE0.1 hp4 hS, fun U hU hW => ⟨rfl, by rw [hU], by rw [hU]; exact hPc, va_K.moved hW.alike hKc, hDc.weaken (fun _ _ _ _ => trivial), hN.warm hW, by rw [hU]; exact hE0.go hS hFc hW⟩⟩ rfl rfl hl.1 rfl (lv_room (Nat.le_of_ble_eq_true rfl)) px_d278_4 ⟨hkc, hks⟩) hS (fun q _ h => hFc q h) hFc (fun r4 u t H1 locs ht hvm hw hB hz1 hk1 hS => ?_)
      obtain ⟨hP1, hK1, hD1⟩ := hB
      rw [ht] at hP1
      obtain ⟨hP, hD⟩ := va_join (wr := [(hp, .inr (7, [.ref q_b, .ref q_d, .int p_length, .int p_full])), (q_b, .inl (c_b, l_b, .inl g_b)), (q_d, .inl (c_b, 48, .inl g_d))]) (w1 := []) hP hD [] [0, 1, 2] rfl rfl (by decide) (by decide) hk1 hFc hP1 hD1
      generalize H1 = H at hP hS ⊢
      have hP : va_P (dC, dI) vwCl [(hp, .inr (7, [.ref q_b, .ref q_d, .int p_length, .int p_full])), (q_b, .inl (c_b, l_b, .inl g_b)), (q_d, .inl (c_b, 48, .inl g_d))] H := hP
      have hD : va_D A [(hp, .inr (7, [.ref q_b, .ref q_d, .int p_length, .int p_full])), (q_b, .inl (c_b, l_b, .inl g_b)), (q_d, .inl (c_b, 48, .inl g_d))] := hD
      refine lv_icmp_ge (tgt := 25) hx hb px_d278_7 (by decide) (fun c7 => ?_) (fun c7 => ?_)
      · have hw := hw.1 c7
        refine W.widen (k := mc) (n := ms) hkc hks ?_
        rw [← hQ]
        exact W.vret hx hb hr (fun t ht hW => ⟨⟨(q_b, l_b, p_length, p_full, g_b, g_d), rfl, hw, by rw [ht]; exact hP, va_K.moved hW.alike hK, hD⟩, hS.F ht⟩) hS.2.2 px_d278_25
      · have hw := hw.2 c7
        refine lv_aload_n hx hb px_d278_10 rfl (lv_at hl 0 rfl) ?_
        refine lv_aload_n hx hb px_d278_11 rfl (lv_at hl 1 rfl) ?_
        refine lv_iload_n hx hb px_d278_12 rfl (lv_at hl 2 rfl) ?_
        obtain ⟨hp13, hw⟩ := hw
        have hPc := hP.sub (ws' := []) [] rfl
        have hDc := hD.sub (ws' := []) [] (by decide) rfl
        have hFc := va_free (wc := []) hD hS hA [] rfl
        have hKc := hK.sub (tys' := []) [] rfl
        refine va_calli (va_runV (As := [.int x2]) (rest := [.ref hp]) ⟨hx, hb, hml, hown, htw⟩ (w151_met l dC dI H.size adK adV bo adB tA tS a1x x2 _ hw) (cwV 1 htw (px_gv px_w1415 px_w894 px_w895 px_w1756 px_g151) rfl rfl rfl (by decide +kernel) ⟨Nat.le_of_ble_eq_true rfl, Nat.le_of_ble_eq_true rfl⟩) ⟨fun a U g mk q => by obtain ⟨q0, q1, qP, qK, qD, qN, qE0⟩ := q; exact ⟨q0, q1, qP, va_K.moved (u := U) (U := U.calling g mk a) (Vm.Alike.refl U.vm) qK, qD, qN.same rfl, qE0.same rfl⟩, vk_recv hE0.1 hp13 hS, fun U hU hW => ⟨rfl, by rw [hU], by rw [hU]; exact hPc, va_K.moved hW.alike hKc, hDc.weaken (fun _ _ _ _ => trivial), hN.warm hW, by rw [hU]; exact hE0.go hS hFc hW⟩⟩ rfl rfl hl.1 rfl (lv_room (Nat.le_of_ble_eq_true rfl)) px_d278_13 ⟨hkc, hks⟩) hS (fun q _ h => hFc q h) hFc (fun r13 u t H1 locs ht hvm hw hB hz1 hk1 hS => ?_)
        obtain ⟨hP1, hK1, hD1⟩ := hB
        rw [ht] at hP1
        obtain ⟨hP, hD⟩ := va_join (wr := [(hp, .inr (7, [.ref q_b, .ref q_d, .int p_length, .int p_full])), (q_b, .inl (c_b, l_b, .inl g_b)), (q_d, .inl (c_b, 48, .inl g_d))]) (w1 := []) hP hD [] [0, 1, 2] rfl rfl (by decide) (by decide) hk1 hFc hP1 hD1
        generalize H1 = H at hP hS ⊢
        have hP : va_P (dC, dI) vwCl [(hp, .inr (7, [.ref q_b, .ref q_d, .int p_length, .int p_full])), (q_b, .inl (c_b, l_b, .inl g_b)), (q_d, .inl (c_b, 48, .inl g_d))] H := hP
        have hD : va_D A [(hp, .inr (7, [.ref q_b, .ref q_d, .int p_length, .int p_full])), (q_b, .inl (c_b, l_b, .inl g_b)), (q_d, .inl (c_b, 48, .inl g_d))] := hD
        obtain ⟨m16_9, s16_9, hm16_9, hs16_9, hw⟩ := hw
        have hPc := hP.sub (ws' := [(hp, .inr (7, [.ref q_b, .ref q_d, .int p_length, .int p_full])), (q_b, .inl (c_b, l_b, .inl g_b)), (q_d, .inl (c_b, 48, .inl g_d))]) [0, 1, 2] rfl
        have hDc := hD.sub (ws' := [(hp, .inr (7, [.ref q_b, .ref q_d, .int p_length, .int p_full])), (q_b, .inl (c_b, l_b, .inl g_b)), (q_d, .inl (c_b, 48, .inl g_d))]) [0, 1, 2] (by decide) rfl
        have hFc := va_free (wc := [(hp, .inr (7, [.ref q_b, .ref q_d, .int p_length, .int p_full])), (q_b, .inl (c_b, l_b, .inl g_b)), (q_d, .inl (c_b, 48, .inl g_d))]) hD hS hA [0, 1, 2] rfl
        have hKc := hK.sub (tys' := [(c_b, .byte)]) [0] rfl
        refine va_callv (va_runV (As := [.int r13]) (rest := []) ⟨hx, hb, hml, hown, htw⟩ (w270_met l dC dI H.size hp q_d c_b m16_9 s16_9 r13 q_b l_b p_length p_full g_b g_d _ hw) (cwV 1 htw (px_gv px_w1376 px_w1378 px_w1379 px_w88 px_g270) rfl rfl rfl (by decide +kernel) ⟨Nat.le_of_ble_eq_true rfl, Nat.le_of_ble_eq_true rfl⟩) ⟨fun a U g mk q => by obtain ⟨q0, q1, qP, qK, qD, qN⟩ := q; exact ⟨q0, q1, qP, va_K.moved (u := U) (U := U.calling g mk a) (Vm.Alike.refl U.vm) qK, qD, qN.same rfl⟩, va_recv hK hP (ci := 7) (q0 := 0) rfl rfl, fun U hU hW => ⟨rfl, by rw [hU], by rw [hU]; exact hPc, va_K.moved hW.alike hKc, hDc.weaken (fun _ _ _ _ => trivial), hN.warm hW⟩⟩ rfl rfl hl.1 rfl (lv_room (Nat.le_of_ble_eq_true rfl)) px_d278_16 ⟨hm16_9, hs16_9⟩) hS (fun q _ h => hFc q h) hFc (fun u t H1 locs ht hvm hw hB hz1 hk1 hS => ?_)
        obtain ⟨v3, v4, v5, v6, v7, v8⟩ := u
        obtain ⟨hP1, hK1, hD1⟩ := hB
        rw [ht] at hP1
        obtain ⟨hP, hD⟩ := va_join (wr := []) (w1 := [(hp, .inr (7, [.ref v3, .ref q_d, .int v5, .int v6])), (v3, .inl (c_b, v4, .inl v7)), (q_d, .inl (c_b, 48, .inl v8))]) hP hD [0, 1, 2] [] rfl rfl (by decide) (by decide) hk1 hFc hP1 hD1
        generalize H1 = H at hP hS ⊢
        have hP : va_P (dC, dI) vwCl [(hp, .inr (7, [.ref v3, .ref q_d, .int v5, .int v6])), (v3, .inl (c_b, v4, .inl v7)), (q_d, .inl (c_b, 48, .inl v8))] H := hP
        have hD : va_D A [(hp, .inr (7, [.ref v3, .ref q_d, .int v5, .int v6])), (v3, .inl (c_b, v4, .inl v7)), (q_d, .inl (c_b, 48, .inl v8))] := hD
        obtain ⟨z11, ez11⟩ : ∃ y : Int32, y = x2 + 1 := ⟨_, rfl⟩
        have hw := hw z11 ez11
        refine lv_iinc (v := z11) (lv' := [(2, .int z11), (0, .ref hp), (1, .ref (adK a1x))]) hx hb px_d278_19 hl (k := 2) rfl (by rw [ez11]; rfl) (by decide) rfl (fun ls hl => ?_)
        refine lv_goto (tgt := 2) hx hb px_d278_22 (by decide) ?_
        exact ih2 z11 v3 v4 v5 v6 v7 v8 (kc + m16_9) (ks + s16_9) H locs ls hm16_9 hs16_9 hP hD hS (lv_sub hl [1, 2, 0] rfl) hw
  unfold w278_wp at hw
  have hS0 := hS
  obtain ⟨H, hH9⟩ : ∃ z, z = s.heap := ⟨_, rfl⟩
  have hP : va_P (dC, dI) vwCl [(hp, .inr (7, [.ref q_b, .ref q_d, .int p_length, .int p_full])), (q_b, .inl (c_b, l_b, .inl g_b)), (q_d, .inl (c_b, 48, .inl g_d))] H := by rw [hH9]; exact hP
  obtain ⟨locs, hlo9⟩ : ∃ z : List Loc, z = [] := ⟨_, rfl⟩
  have hS : va_S A s.heap H locs := by rw [hH9, hlo9]; exact hS
  suffices hG : W p l e (headSpec px_s278 ({ frames := 4, cells := mc, slots := ms, locals := 85 })).room s m ([.ref hp, .ref (adK a1x)]).toArray below meth c H locs 0 0 Q (F0 m 0 ls []) by rw [hH9, hlo9] at hG; exact hG
  refine lv_iconst (v := 0) hx hb px_d278_0 (by decide) ?_
  refine lv_istore_n (lv' := [(2, .int 0), (0, .ref hp), (1, .ref (adK a1x))]) hx hb px_d278_1 rfl hl (by decide) rfl (fun ls hl => ?_)
  obtain ⟨k9, hw⟩ := hw
  exact S2 k9 0 q_b l_b p_length p_full g_b g_d 0 0 H locs ls (Nat.zero_le mc) (Nat.zero_le ms) hP hD hS (lv_sub hl [1, 2, 0] rfl) hw

