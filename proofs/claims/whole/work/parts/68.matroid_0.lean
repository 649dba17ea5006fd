/-! MatroidDesk$Part.<init>(LMatroidDesk$Source;IZ)V -/
def w248_wp (n_r1 : Nat) (post : Option Nat → Int32 → Int32 → Prop) (a2x : Int32) (a3x : Int32) (z_source : Option Nat) (z_held : Int32) (z_turned : Int32) : Prop := (narrow .boolean (.int a3x) = .int a3x ∧ fits .boolean (.int a3x) = true) ∧ (post (some n_r1) a2x a3x)
set_option maxHeartbeats 8000000 in
set_option maxRecDepth 100000 in
theorem w248_met (l : Launch) (dC : Nat → ClassId) (dI : Nat → Nat → Nat) (sz : Nat) (h0 : Nat) (n_r1 : Nat) (a2x : Int32) (a3x : Int32) (z_source : Option Nat) (z_held : Int32) (z_turned : Int32) (post : Option Nat → Int32 → Int32 → Prop) (hw : w248_wp n_r1 post a2x a3x z_source z_held z_turned) : Met l px_y248 px_s248 ({ frames := 1, cells := 0, slots := 0, locals := 12 }) (va_Pc [.ref h0, .ref n_r1, .int a2x, .int a3x] (fun U => U.heap.size = sz ∧ va_P (dC, dI) vwCl [(h0, .inr (11, [va_rf z_source, .int z_held, .int z_turned]))] U.heap ∧ va_K (dC, dI) vwCl [] U ∧ va_D (fun _ => True) [(h0, .inr (11, [va_rf z_source, .int z_held, .int z_turned]))] ∧ px_N U)) (va_Qv (fun (u : Option Nat × Int32 × Int32) => post u.1 u.2.1 u.2.2) (fun (u : Option Nat × Int32 × Int32) (t : State) => va_P (dC, dI) vwCl [(h0, .inr (11, [va_rf u.1, .int u.2.1, .int u.2.2]))] t.heap ∧ va_K (dC, dI) vwCl [] t ∧ va_D (va_A [(h0, .inr (11, [va_rf z_source, .int z_held, .int z_turned]))] sz) [(h0, .inr (11, [va_rf u.1, .int u.2.1, .int u.2.2]))]) (va_A [(h0, .inr (11, [va_rf z_source, .int z_held, .int z_turned]))] sz)) 0 0 (va_A [(h0, .inr (11, [va_rf z_source, .int z_held, .int z_turned]))] sz) := by
  refine Met.ofW (cc := prog_6_method_1_code) (maxL := 4) (ret := none) (by decide) rfl ?_
  intro p e s m args below meth c s₁ B hml hv
  obtain ⟨rfl, hsz, hP, hK, hD0, hN⟩ := hv
  have hx := B.exec
  have hb := B.bytes
  have hr := B.returns
  have htw : ∀ w ∈ px_all, w.before _ s = true := fun w h => atoms_spec (ws := px_s248) B.pre w (List.mem_cons_of_mem _ h)
  have hown : s.vm.findClass "MatroidDesk$Part" = some m.cls := findClass_of_methodNamed B.named
  have hlocks := B.notSynchronized
  have hin : meth.name = "<init>" := (name_of_methodNamed B.named B.method).1
  subst hsz
  have hD := hD0.self (sz := s.heap.size)
  generalize hAe : va_A [(h0, .inr (11, [va_rf z_source, .int z_held, .int z_turned]))] s.heap.size = A at hD ⊢
  have hA : ∀ q : Nat, s.heap.size ≤ q → A q := fun q h => by rw [← hAe]; exact Or.inr h
  have hS : va_S A s.heap s.heap [] := va_S.rf
  have hP : va_P (dC, dI) vwCl [(h0, .inr (11, [va_rf z_source, .int z_held, .int z_turned]))] s.heap := hP
  have hl := lv_entry ([.ref h0, .ref n_r1, .int a2x, .int a3x]) (n := 4) (Nat.le_of_ble_eq_true rfl)
  rw [lg_entry_eq]
  generalize (lg_sl ([.ref h0, .ref n_r1, .int a2x, .int a3x]) ++ List.replicate (4 - (lg_sl ([.ref h0, .ref n_r1, .int a2x, .int a3x])).length) Slot.unset).toArray = ls at hl ⊢
  have hl : lv_has ls 4 [(0, .ref h0), (1, .ref n_r1), (2, .int a2x), (3, .int a3x)] := hl
  generalize hQ : MQ _ _ _ _ _ _ _ = Q
  unfold w248_wp at hw
  have hS0 := hS
  obtain ⟨H, hH9⟩ : ∃ z, z = s.heap := ⟨_, rfl⟩
  have hP : va_P (dC, dI) vwCl [(h0, .inr (11, [va_rf z_source, .int z_held, .int z_turned]))] H := by rw [hH9]; exact hP
  obtain ⟨locs, hlo9⟩ : ∃ z : List Loc, z = [] := ⟨_, rfl⟩
  have hS : va_S A s.heap H locs := by rw [hH9, hlo9]; exact hS
  suffices hG : W p l e (headSpec px_s248 ({ frames := 1, cells := 0, slots := 0, locals := 12 })).room s m ([.ref h0, .ref n_r1, .int a2x, .int a3x]).toArray below meth c H locs 0 0 Q (F0 m 0 ls []) by rw [hH9, hlo9] at hG; exact hG
  refine lv_aload_n hx hb px_d248_0 rfl (lv_at hl 0 rfl) ?_
  refine W.objInit hx hb hown (htw _ px_w1282) (htw _ px_w1) (htw _ px_w0) rfl (by rw [hml]; exact hl.1) rfl px_d248_1 (Nat.le_of_ble_eq_true rfl) (Nat.le_of_ble_eq_true rfl) ?_
  refine W.eq (g2 := F0 m 4 ls []) rfl ?_
  refine lv_aload_n hx hb px_d248_4 rfl (lv_at hl 0 rfl) ?_
  refine lv_aload_n hx hb px_d248_5 rfl (lv_at hl 1 rfl) ?_
  refine va_putF (D := (dC, dI)) (ci := 11) (v := .ref n_r1) (ty := (.object "MatroidDesk$Source")) (C := "MatroidDesk$Part") (T := px_T11) (N := 3) hx hb htw px_in11 px_ty11 px_tyok11 px_nm11 hown hK hP hD hS 0 rfl rfl 0 (by decide) (htw _ px_w1283) (fun _ h9 => h9) rfl hin rfl (by decide +kernel) rfl rfl (Nat.le_of_ble_eq_true rfl) px_d248_6 (fun H locs hP hD hS => ?_)
  have hP : va_P (dC, dI) vwCl [(h0, .inr (11, [.ref n_r1, .int z_held, .int z_turned]))] H := hP
  have hD : va_D A [(h0, .inr (11, [.ref n_r1, .int z_held, .int z_turned]))] := hD
  refine lv_aload_n hx hb px_d248_9 rfl (lv_at hl 0 rfl) ?_
  refine lv_iload_n hx hb px_d248_10 rfl (lv_at hl 2 rfl) ?_
  refine va_putF (D := (dC, dI)) (ci := 11) (v := .int a2x) (ty := .int) (C := "MatroidDesk$Part") (T := px_T11) (N := 3) hx hb htw px_in11 px_ty11 px_tyok11 px_nm11 hown hK hP hD hS 0 rfl rfl 1 (by decide) (htw _ px_w1284) (fun _ h9 => h9) rfl hin rfl (by decide +kernel) rfl rfl (Nat.le_of_ble_eq_true rfl) px_d248_11 (fun H locs hP hD hS => ?_)
  have hP : va_P (dC, dI) vwCl [(h0, .inr (11, [.ref n_r1, .int a2x, .int z_turned]))] H := hP
  have hD : va_D A [(h0, .inr (11, [.ref n_r1, .int a2x, .int z_turned]))] := hD
  refine lv_aload_n hx hb px_d248_14 rfl (lv_at hl 0 rfl) ?_
  refine lv_iload_n hx hb px_d248_15 rfl (lv_at hl 3 rfl) ?_
  obtain ⟨hz16, hw⟩ := hw
  refine va_putF (D := (dC, dI)) (ci := 11) (v := .int a3x) (ty := .boolean) (C := "MatroidDesk$Part") (T := px_T11) (N := 3) hx hb htw px_in11 px_ty11 px_tyok11 px_nm11 hown hK hP hD hS 0 rfl rfl 2 (by decide) (htw _ px_w1285) (fun _ h9 => h9) rfl hin rfl (by decide +kernel) (hz16).1 (hz16).2 (Nat.le_of_ble_eq_true rfl) px_d248_16 (fun H locs hP hD hS => ?_)
  have hP : va_P (dC, dI) vwCl [(h0, .inr (11, [.ref n_r1, .int a2x, .int a3x]))] H := hP
  have hD : va_D A [(h0, .inr (11, [.ref n_r1, .int a2x, .int a3x]))] := hD
  rw [← hQ]
  exact W.vret hx hb hr (fun t ht hW => ⟨⟨(some n_r1, a2x, a3x), rfl, hw, by rw [ht]; exact hP, va_K.moved hW.alike hK, hD⟩, hS.F ht⟩) hS.2.2 px_d248_19

/-! MatroidDesk$Matroid.all()I -/
def w249_wp (a0x : Nat) (cm : Nat) (np : Nat) (ns : Nat) (pa : Nat → Nat) (sa : Nat → Nat) (pp : Nat → px_PR) (ss : Nat → px_SR) (post : Int32 → Nat → Nat → Int32 → (Nat → Int32) → (Nat → Int32) → (Nat → px_MR) → Prop) (q_o : Nat) (l_o : Nat) (o_reached : Int32) (g_o : Nat → Int32) (g_t : Nat → Int32) (mm : Nat → px_MR) : Prop := a0x < cm ∧ (post (((1 : Int32) <<< (((mm a0x).2.1 13) &&& 31)) - 1) q_o l_o o_reached g_o g_t mm)
set_option maxHeartbeats 8000000 in
set_option maxRecDepth 100000 in
theorem w249_met (l : Launch) (dC : Nat → ClassId) (dI : Nat → Nat → Nat) (sz : Nat) (ho : Nat) (q_t : Nat) (a0x : Nat) (cc : px_CC) (cm : Nat) (np : Nat) (ns : Nat) (hm : Nat → Nat) (pa : Nat → Nat) (sa : Nat → Nat) (pp : Nat → px_PR) (ss : Nat → px_SR) (q_o : Nat) (l_o : Nat) (o_reached : Int32) (g_o : Nat → Int32) (g_t : Nat → Int32) (mm : Nat → px_MR) (post : Int32 → Nat → Nat → Int32 → (Nat → Int32) → (Nat → Int32) → (Nat → px_MR) → Prop) (hw : w249_wp a0x cm np ns pa sa pp ss post q_o l_o o_reached g_o g_t mm) : Met l px_y249 px_s249 ({ frames := 0, cells := 0, slots := 0, locals := 0 }) (va_Pc [.ref (hm a0x)] (fun U => U.heap.size = sz ∧ va_P (dC, dI) vwCl (([(ho, .inr (1, [.ref q_o, .ref q_t, .int o_reached])), (q_o, .inl (cc.2.1, l_o, .inl g_o)), (q_t, .inl (cc.2.1, 182, .inl g_t))] : va_W) ++ px_cp cc ho cm np ns hm pa sa mm pp ss) U.heap ∧ va_K (dC, dI) vwCl [(cc.2.1, .int), (cc.2.2.2.1, .byte), (cc.2.2.2.2, .long), (cc.1, .object "MatroidDesk$Part"), (cc.2.2.1, (.array .int))] U ∧ va_D (fun _ => True) (([(ho, .inr (1, [.ref q_o, .ref q_t, .int o_reached])), (q_o, .inl (cc.2.1, l_o, .inl g_o)), (q_t, .inl (cc.2.1, 182, .inl g_t))] : va_W) ++ px_cp cc ho cm np ns hm pa sa mm pp ss) ∧ px_N U)) (va_Qi (fun (r : Int32) (u : Nat × Nat × Int32 × (Nat → Int32) × (Nat → Int32) × (Nat → px_MR)) => post r u.1 u.2.1 u.2.2.1 u.2.2.2.1 u.2.2.2.2.1 u.2.2.2.2.2) (fun (u : Nat × Nat × Int32 × (Nat → Int32) × (Nat → Int32) × (Nat → px_MR)) (t : State) => va_P (dC, dI) vwCl (([(ho, .inr (1, [.ref u.1, .ref q_t, .int u.2.2.1])), (u.1, .inl (cc.2.1, u.2.1, .inl u.2.2.2.1)), (q_t, .inl (cc.2.1, 182, .inl u.2.2.2.2.1))] : va_W) ++ px_cp cc ho cm np ns hm pa sa u.2.2.2.2.2 pp ss) t.heap ∧ va_K (dC, dI) vwCl [(cc.2.1, .int), (cc.2.2.2.1, .byte), (cc.2.2.2.2, .long), (cc.1, .object "MatroidDesk$Part"), (cc.2.2.1, (.array .int))] t ∧ va_D (va_A (([(ho, .inr (1, [.ref q_o, .ref q_t, .int o_reached])), (q_o, .inl (cc.2.1, l_o, .inl g_o)), (q_t, .inl (cc.2.1, 182, .inl g_t))] : va_W) ++ px_cp cc ho cm np ns hm pa sa mm pp ss) sz) (([(ho, .inr (1, [.ref u.1, .ref q_t, .int u.2.2.1])), (u.1, .inl (cc.2.1, u.2.1, .inl u.2.2.2.1)), (q_t, .inl (cc.2.1, 182, .inl u.2.2.2.2.1))] : va_W) ++ px_cp cc ho cm np ns hm pa sa u.2.2.2.2.2 pp ss)) (va_A (([(ho, .inr (1, [.ref q_o, .ref q_t, .int o_reached])), (q_o, .inl (cc.2.1, l_o, .inl g_o)), (q_t, .inl (cc.2.1, 182, .inl g_t))] : va_W) ++ px_cp cc ho cm np ns hm pa sa mm pp ss) sz)) 0 0 (va_A (([(ho, .inr (1, [.ref q_o, .ref q_t, .int o_reached])), (q_o, .inl (cc.2.1, l_o, .inl g_o)), (q_t, .inl (cc.2.1, 182, .inl g_t))] : va_W) ++ px_cp cc ho cm np ns hm pa sa mm pp ss) sz) := by
  refine Met.ofW (cc := prog_3_method_7_code) (maxL := 1) (ret := (some .int)) (by decide) rfl ?_
  intro p e s m args below meth c s₁ B hml hv
  obtain ⟨rfl, hsz, hP, hK, hD0, hN⟩ := hv
  have hx := B.exec
  have hb := B.bytes
  have hr := B.returns
  have htw : ∀ w ∈ px_all, w.before _ s = true := fun w h => atoms_spec (ws := px_s249) B.pre w (List.mem_cons_of_mem _ h)
  have hown : s.vm.findClass "MatroidDesk$Matroid" = some m.cls := findClass_of_methodNamed B.named
  have hlocks := B.notSynchronized
  subst hsz
  have hD := hD0.self (sz := s.heap.size)
  generalize hAe : va_A (([(ho, .inr (1, [.ref q_o, .ref q_t, .int o_reached])), (q_o, .inl (cc.2.1, l_o, .inl g_o)), (q_t, .inl (cc.2.1, 182, .inl g_t))] : va_W) ++ px_cp cc ho cm np ns hm pa sa mm pp ss) s.heap.size = A at hD ⊢
  have hA : ∀ q : Nat, s.heap.size ≤ q → A q := fun q h => by rw [← hAe]; exact Or.inr h
  have hS : va_S A s.heap s.heap [] := va_S.rf
  have hP : va_P (dC, dI) vwCl (([(ho, .inr (1, [.ref q_o, .ref q_t, .int o_reached])), (q_o, .inl (cc.2.1, l_o, .inl g_o)), (q_t, .inl (cc.2.1, 182, .inl g_t))] : va_W) ++ px_cp cc ho cm np ns hm pa sa mm pp ss) s.heap := hP
  have hl := lv_entry ([.ref (hm a0x)]) (n := 1) (Nat.le_of_ble_eq_true rfl)
  rw [lg_entry_eq]
  generalize (lg_sl ([.ref (hm a0x)]) ++ List.replicate (1 - (lg_sl ([.ref (hm a0x)])).length) Slot.unset).toArray = ls at hl ⊢
  have hl : lv_has ls 1 [(0, .ref (hm a0x))] := hl
  generalize hQ : MQ _ _ _ _ _ _ _ = Q
  unfold w249_wp at hw
  have hS0 := hS
  obtain ⟨H, hH9⟩ : ∃ z, z = s.heap := ⟨_, rfl⟩
  have hP : va_P (dC, dI) vwCl (([(ho, .inr (1, [.ref q_o, .ref q_t, .int o_reached])), (q_o, .inl (cc.2.1, l_o, .inl g_o)), (q_t, .inl (cc.2.1, 182, .inl g_t))] : va_W) ++ px_cp cc ho cm np ns hm pa sa mm pp ss) H := by rw [hH9]; exact hP
  obtain ⟨locs, hlo9⟩ : ∃ z : List Loc, z = [] := ⟨_, rfl⟩
  have hS : va_S A s.heap H locs := by rw [hH9, hlo9]; exact hS
  suffices hG : W p l e (headSpec px_s249 ({ frames := 0, cells := 0, slots := 0, locals := 0 })).room s m ([.ref (hm a0x)]).toArray below meth c H locs 0 0 Q (F0 m 0 ls []) by rw [hH9, hlo9] at hG; exact hG
  refine lv_iconst (v := 1) hx hb px_d249_0 (by decide) ?_
  refine lv_aload_n hx hb px_d249_1 rfl (lv_at hl 0 rfl) ?_
  obtain ⟨hp2, hw⟩ := hw
  refine va_get (D := (dC, dI)) (ci := 10) (v := .int ((mm a0x).2.1 13)) (C := "MatroidDesk$Matroid") (T := px_T10) (N := 15) hx hb htw px_in10 hown hK hP (3 + (13 * a0x + 0)) (px_cg0 rfl hp2) rfl 13 (by decide) (htw _ px_w1264) (fun _ h9 => h9) rfl px_d249_2 ?_
  refine lv_ishl hx hb px_d249_5 ?_
  refine lv_iconst (v := 1) hx hb px_d249_6 (by decide) ?_
  refine lv_isub hx hb px_d249_7 ?_
  rw [← hQ]
  exact W.iret (v := ((1 : Int32) <<< (((mm a0x).2.1 13) &&& 31)) - 1) hx hb hr (fun t ht hW => ⟨⟨((1 : Int32) <<< (((mm a0x).2.1 13) &&& 31)) - 1, (q_o, l_o, o_reached, g_o, g_t, mm), rfl, hw, by rw [ht]; exact hP, va_K.moved hW.alike hK, hD⟩, hS.F ht⟩) hS.2.2 px_d249_8

/-! MatroidDesk$Matroid.holds(I)Z -/
def w341_L17 (a0x : Nat) (cm : Nat) (np : Nat) (ns : Nat) (pa : Nat → Nat) (sa : Nat → Nat) (pp : Nat → px_PR) (ss : Nat → px_SR) (post : Int32 → Nat → Nat → Int32 → (Nat → Int32) → (Nat → Int32) → (Nat → px_MR) → Prop) (x1 : Int32) (y0 : Int32) (q_o : Nat) (l_o : Nat) (o_reached : Int32) (g_o : Nat → Int32) (g_t : Nat → Int32) (mm : Nat → px_MR) : Prop := narrow .boolean (.int y0) = .int y0 ∧ post y0 q_o l_o o_reached g_o g_t mm
def w341_L16 (a0x : Nat) (cm : Nat) (np : Nat) (ns : Nat) (pa : Nat → Nat) (sa : Nat → Nat) (pp : Nat → px_PR) (ss : Nat → px_SR) (post : Int32 → Nat → Nat → Int32 → (Nat → Int32) → (Nat → Int32) → (Nat → px_MR) → Prop) (x1 : Int32) (q_o : Nat) (l_o : Nat) (o_reached : Int32) (g_o : Nat → Int32) (g_t : Nat → Int32) (mm : Nat → px_MR) : Prop := w341_L17 a0x cm np ns pa sa pp ss post x1 0 q_o l_o o_reached g_o g_t mm
def w341_wp (a0x : Nat) (cm : Nat) (np : Nat) (ns : Nat) (pa : Nat → Nat) (sa : Nat → Nat) (pp : Nat → px_PR) (ss : Nat → px_SR) (post : Int32 → Nat → Nat → Int32 → (Nat → Int32) → (Nat → Int32) → (Nat → px_MR) → Prop) (a1x : Int32) (q_o : Nat) (l_o : Nat) (o_reached : Int32) (g_o : Nat → Int32) (g_t : Nat → Int32) (mm : Nat → px_MR) : Prop := (a1x < 0 → w341_L16 a0x cm np ns pa sa pp ss post a1x q_o l_o o_reached g_o g_t mm) ∧ (¬ a1x < 0 → a0x < cm ∧ (w249_wp a0x cm np ns pa sa pp ss (fun r6 v1 v2 v3 v4 v5 v6 => (r6 < a1x → w341_L16 a0x cm np ns pa sa pp ss post a1x v1 v2 v3 v4 v5 v6) ∧ (¬ r6 < a1x → w341_L17 a0x cm np ns pa sa pp ss post a1x 1 v1 v2 v3 v4 v5 v6)) q_o l_o o_reached g_o g_t mm))
set_option maxHeartbeats 8000000 in
set_option maxRecDepth 100000 in
theorem w341_met (l : Launch) (dC : Nat → ClassId) (dI : Nat → Nat → Nat) (sz : Nat) (ho : Nat) (q_t : Nat) (a0x : Nat) (cc : px_CC) (cm : Nat) (np : Nat) (ns : Nat) (hm : Nat → Nat) (pa : Nat → Nat) (sa : Nat → Nat) (pp : Nat → px_PR) (ss : Nat → px_SR) (a1x : Int32) (q_o : Nat) (l_o : Nat) (o_reached : Int32) (g_o : Nat → Int32) (g_t : Nat → Int32) (mm : Nat → px_MR) (post : Int32 → Nat → Nat → Int32 → (Nat → Int32) → (Nat → Int32) → (Nat → px_MR) → Prop) (hw : w341_wp a0x cm np ns pa sa pp ss post a1x q_o l_o o_reached g_o g_t mm) : Met l px_y341 px_s341 ({ frames := 1, cells := 0, slots := 0, locals := 20 }) (va_Pc [.ref (hm a0x), .int a1x] (fun U => U.heap.size = sz ∧ va_P (dC, dI) vwCl (([(ho, .inr (1, [.ref q_o, .ref q_t, .int o_reached])), (q_o, .inl (cc.2.1, l_o, .inl g_o)), (q_t, .inl (cc.2.1, 182, .inl g_t))] : va_W) ++ px_cp cc ho cm np ns hm pa sa mm pp ss) U.heap ∧ va_K (dC, dI) vwCl [(cc.2.1, .int), (cc.2.2.2.1, .byte), (cc.2.2.2.2, .long), (cc.1, .object "MatroidDesk$Part"), (cc.2.2.1, (.array .int))] U ∧ va_D (fun _ => True) (([(ho, .inr (1, [.ref q_o, .ref q_t, .int o_reached])), (q_o, .inl (cc.2.1, l_o, .inl g_o)), (q_t, .inl (cc.2.1, 182, .inl g_t))] : va_W) ++ px_cp cc ho cm np ns hm pa sa mm pp ss) ∧ px_N U)) (va_Qi (fun (r : Int32) (u : Nat × Nat × Int32 × (Nat → Int32) × (Nat → Int32) × (Nat → px_MR)) => post r u.1 u.2.1 u.2.2.1 u.2.2.2.1 u.2.2.2.2.1 u.2.2.2.2.2) (fun (u : Nat × Nat × Int32 × (Nat → Int32) × (Nat → Int32) × (Nat → px_MR)) (t : State) => va_P (dC, dI) vwCl (([(ho, .inr (1, [.ref u.1, .ref q_t, .int u.2.2.1])), (u.1, .inl (cc.2.1, u.2.1, .inl u.2.2.2.1)), (q_t, .inl (cc.2.1, 182, .inl u.2.2.2.2.1))] : va_W) ++ px_cp cc ho cm np ns hm pa sa u.2.2.2.2.2 pp ss) t.heap ∧ va_K (dC, dI) vwCl [(cc.2.1, .int), (cc.2.2.2.1, .byte), (cc.2.2.2.2, .long), (cc.1, .object "MatroidDesk$Part"), (cc.2.2.1, (.array .int))] t ∧ va_D (va_A (([(ho, .inr (1, [.ref q_o, .ref q_t, .int o_reached])), (q_o, .inl (cc.2.1, l_o, .inl g_o)), (q_t, .inl (cc.2.1, 182, .inl g_t))] : va_W) ++ px_cp cc ho cm np ns hm pa sa mm pp ss) sz) (([(ho, .inr (1, [.ref u.1, .ref q_t, .int u.2.2.1])), (u.1, .inl (cc.2.1, u.2.1, .inl u.2.2.2.1)), (q_t, .inl (cc.2.1, 182, .inl u.2.2.2.2.1))] : va_W) ++ px_cp cc ho cm np ns hm pa sa u.2.2.2.2.2 pp ss)) (va_A (([(ho, .inr (1, [.ref q_o, .ref q_t, .int o_reached])), (q_o, .inl (cc.2.1, l_o, .inl g_o)), (q_t, .inl (cc.2.1, 182, .inl g_t))] : va_W) ++ px_cp cc ho cm np ns hm pa sa mm pp ss) sz)) 0 0 (va_A (([(ho, .inr (1, [.ref q_o, .ref q_t, .int o_reached])), (q_o, .inl (cc.2.1, l_o, .inl g_o)), (q_t, .inl (cc.2.1, 182, .inl g_t))] : va_W) ++ px_cp cc ho cm np ns hm pa sa mm pp ss) sz) := by
  refine Met.ofW (cc := prog_3_method_8_code) (maxL := 2) (ret := (some .boolean)) (by decide) rfl ?_
  intro p e s m args below meth c s₁ B hml hv
  obtain ⟨rfl, hsz, hP, hK, hD0, hN⟩ := hv
  have hx := B.exec
  have hb := B.bytes
  have hr := B.returns
  have htw : ∀ w ∈ px_all, w.before _ s = true := fun w h => atoms_spec (ws := px_s341) B.pre w (List.mem_cons_of_mem _ h)
  have hown : s.vm.findClass "MatroidDesk$Matroid" = some m.cls := findClass_of_methodNamed B.named
  have hlocks := B.notSynchronized
  subst hsz
  have hD := hD0.self (sz := s.heap.size)
  generalize hAe : va_A (([(ho, .inr (1, [.ref q_o, .ref q_t, .int o_reached])), (q_o, .inl (cc.2.1, l_o, .inl g_o)), (q_t, .inl (cc.2.1, 182, .inl g_t))] : va_W) ++ px_cp cc ho cm np ns hm pa sa mm pp ss) s.heap.size = A at hD ⊢
  have hA : ∀ q : Nat, s.heap.size ≤ q → A q := fun q h => by rw [← hAe]; exact Or.inr h
  have hS : va_S A s.heap s.heap [] := va_S.rf
  have hP : va_P (dC, dI) vwCl (([(ho, .inr (1, [.ref q_o, .ref q_t, .int o_reached])), (q_o, .inl (cc.2.1, l_o, .inl g_o)), (q_t, .inl (cc.2.1, 182, .inl g_t))] : va_W) ++ px_cp cc ho cm np ns hm pa sa mm pp ss) s.heap := hP
  have hl := lv_entry ([.ref (hm a0x), .int a1x]) (n := 2) (Nat.le_of_ble_eq_true rfl)
  rw [lg_entry_eq]
  generalize (lg_sl ([.ref (hm a0x), .int a1x]) ++ List.replicate (2 - (lg_sl ([.ref (hm a0x), .int a1x])).length) Slot.unset).toArray = ls at hl ⊢
  have hl : lv_has ls 2 [(0, .ref (hm a0x)), (1, .int a1x)] := hl
  generalize hQ : MQ _ _ _ _ _ _ _ = Q
  have S17 : ∀ (x1 : Int32) (y0 : Int32) (q_o : Nat) (l_o : Nat) (o_reached : Int32) (g_o : Nat → Int32) (g_t : Nat → Int32) (mm : Nat → px_MR) (H : Heap) (locs : List Loc) (ls : Array Slot), va_P (dC, dI) vwCl (([(ho, .inr (1, [.ref q_o, .ref q_t, .int o_reached])), (q_o, .inl (cc.2.1, l_o, .inl g_o)), (q_t, .inl (cc.2.1, 182, .inl g_t))] : va_W) ++ px_cp cc ho cm np ns hm pa sa mm pp ss) H → va_D A (([(ho, .inr (1, [.ref q_o, .ref q_t, .int o_reached])), (q_o, .inl (cc.2.1, l_o, .inl g_o)), (q_t, .inl (cc.2.1, 182, .inl g_t))] : va_W) ++ px_cp cc ho cm np ns hm pa sa mm pp ss) → va_S A s.heap H locs → lv_has ls 2 [(0, .ref (hm a0x)), (1, .int x1)] → w341_L17 a0x cm np ns pa sa pp ss post x1 y0 q_o l_o o_reached g_o g_t mm → W p l e (headSpec px_s341 ({ frames := 1, cells := 0, slots := 0, locals := 20 })).room s m ([.ref (hm a0x), .int a1x]).toArray below meth c H locs 0 0 Q (F0 m 17 ls [.int y0]) := by
    intro x1 y0 q_o l_o o_reached g_o g_t mm H locs ls hP hD hS hl hw
    unfold w341_L17 at hw
    obtain ⟨hz9, hw⟩ := hw
    rw [← hQ]
    exact W.zret (v := y0) hx hb hr hz9 (fun t ht hW => ⟨⟨y0, (q_o, l_o, o_reached, g_o, g_t, mm), rfl, hw, by rw [ht]; exact hP, va_K.moved hW.alike hK, hD⟩, hS.F ht⟩) hS.2.2 px_d341_17
  have S16 : ∀ (x1 : Int32) (q_o : Nat) (l_o : Nat) (o_reached : Int32) (g_o : Nat → Int32) (g_t : Nat → Int32) (mm : Nat → px_MR) (H : Heap) (locs : List Loc) (ls : Array Slot), va_P (dC, dI) vwCl (([(ho, .inr (1, [.ref q_o, .ref q_t, .int o_reached])), (q_o, .inl (cc.2.1, l_o, .inl g_o)), (q_t, .inl (cc.2.1, 182, .inl g_t))] : va_W) ++ px_cp cc ho cm np ns hm pa sa mm pp ss) H → va_D A (([(ho, .inr (1, [.ref q_o, .ref q_t, .int o_reached])), (q_o, .inl (cc.2.1, l_o, .inl g_o)), (q_t, .inl (cc.2.1, 182, .inl g_t))] : va_W) ++ px_cp cc ho cm np ns hm pa sa mm pp ss) → va_S A s.heap H locs → lv_has ls 2 [(0, .ref (hm a0x)), (1, .int x1)] → w341_L16 a0x cm np ns pa sa pp ss post x1 q_o l_o o_reached g_o g_t mm → W p l e (headSpec px_s341 ({ frames := 1, cells := 0, slots := 0, locals := 20 })).room s m ([.ref (hm a0x), .int a1x]).toArray below meth c H locs 0 0 Q (F0 m 16 ls []) := by
    intro x1 q_o l_o o_reached g_o g_t mm H locs ls hP hD hS hl hw
    unfold w341_L16 at hw
    refine lv_iconst (v := 0) hx hb px_d341_16 (by decide) ?_
    exact S17 x1 0 q_o l_o o_reached g_o g_t mm H locs ls hP hD hS (lv_sub hl [0, 1] rfl) hw
  unfold w341_wp at hw
  have hS0 := hS
  obtain ⟨H, hH9⟩ : ∃ z, z = s.heap := ⟨_, rfl⟩
  have hP : va_P (dC, dI) vwCl (([(ho, .inr (1, [.ref q_o, .ref q_t, .int o_reached])), (q_o, .inl (cc.2.1, l_o, .inl g_o)), (q_t, .inl (cc.2.1, 182, .inl g_t))] : va_W) ++ px_cp cc ho cm np ns hm pa sa mm pp ss) H := by rw [hH9]; exact hP
  obtain ⟨locs, hlo9⟩ : ∃ z : List Loc, z = [] := ⟨_, rfl⟩
  have hS : va_S A s.heap H locs := by rw [hH9, hlo9]; exact hS
  suffices hG : W p l e (headSpec px_s341 ({ frames := 1, cells := 0, slots := 0, locals := 20 })).room s m ([.ref (hm a0x), .int a1x]).toArray below meth c H locs 0 0 Q (F0 m 0 ls []) by rw [hH9, hlo9] at hG; exact hG
  refine lv_iload_n hx hb px_d341_0 rfl (lv_at hl 1 rfl) ?_
  refine lv_if_lt (tgt := 16) hx hb px_d341_1 (by decide) (fun c1 => ?_) (fun c1 => ?_)
  · have hw := hw.1 c1
    exact S16 a1x q_o l_o o_reached g_o g_t mm H locs ls hP hD hS (lv_sub hl [0, 1] rfl) hw
  · have hw := hw.2 c1
    refine lv_iload_n hx hb px_d341_4 rfl (lv_at hl 1 rfl) ?_
    refine lv_aload_n hx hb px_d341_5 rfl (lv_at hl 0 rfl) ?_
    obtain ⟨hp6, hw⟩ := hw
    have hPc := hP.part (cx := [(ho, .inr (1, [.ref q_o, .ref q_t, .int o_reached])), (q_o, .inl (cc.2.1, l_o, .inl g_o)), (q_t, .inl (cc.2.1, 182, .inl g_t))]) [0, 1, 2] rfl
    have hDc := hD.part (cx := [(ho, .inr (1, [.ref q_o, .ref q_t, .int o_reached])), (q_o, .inl (cc.2.1, l_o, .inl g_o)), (q_t, .inl (cc.2.1, 182, .inl g_t))]) [0, 1, 2] (by decide) rfl
    have hFc := va_freeP (cx := [(ho, .inr (1, [.ref q_o, .ref q_t, .int o_reached])), (q_o, .inl (cc.2.1, l_o, .inl g_o)), (q_t, .inl (cc.2.1, 182, .inl g_t))]) hD hS hA [0, 1, 2] rfl
    have hKc := hK.sub (tys' := [(cc.2.1, .int), (cc.2.2.2.1, .byte), (cc.2.2.2.2, .long), (cc.1, .object "MatroidDesk$Part"), (cc.2.2.1, (.array .int))]) [0, 1, 2, 3, 4] rfl
    refine va_calli (va_runV (As := []) (rest := [.int a1x]) ⟨hx, hb, hml, hown, htw⟩ (w249_met l dC dI H.size ho q_t a0x cc cm np ns hm pa sa pp ss q_o l_o o_reached g_o g_t mm _ hw) (cwV 0 htw (px_gv px_w1265 px_w1287 px_w1288 px_w154 px_g249) rfl rfl rfl (by decide +kernel) ⟨Nat.le_of_ble_eq_true rfl, Nat.le_of_ble_eq_true rfl⟩) ⟨fun a U g mk q => by obtain ⟨q0, q1, qP, qK, qD, qN⟩ := q; exact ⟨q0, q1, qP, va_K.moved (u := U) (U := U.calling g mk a) (Vm.Alike.refl U.vm) qK, qD, qN.same rfl⟩, va_recv hK hP (ci := 10) (q0 := (3 + (13 * a0x + 0))) rfl (px_cg0 rfl hp6), fun U hU hW => ⟨rfl, by rw [hU], by rw [hU]; exact hPc, va_K.moved hW.alike hKc, hDc.weaken (fun _ _ _ _ => trivial), hN.warm hW⟩⟩ rfl rfl hl.1 rfl (lv_room (Nat.le_of_ble_eq_true rfl)) px_d341_6 ⟨(Nat.le_of_ble_eq_true rfl), (Nat.le_of_ble_eq_true rfl)⟩) hS (fun q _ h => hFc q h) hFc (fun r6 u t H1 locs ht hvm hw hB hz1 hk1 hS => ?_)
    obtain ⟨v1, v2, v3, v4, v5, v6⟩ := u
    obtain ⟨hP1, hK1, hD1⟩ := hB
    rw [ht] at hP1
    obtain ⟨hP, hD⟩ := va_joinP (wr := []) (rx := [(ho, .inr (1, [.ref v1, .ref q_t, .int v3])), (v1, .inl (cc.2.1, v2, .inl v4)), (q_t, .inl (cc.2.1, 182, .inl v5))]) hP hD [0, 1, 2] [] rfl rfl (by decide) (by decide) hk1 hFc hP1 hD1
    generalize H1 = H at hP hS ⊢
    have hP : va_P (dC, dI) vwCl (([(ho, .inr (1, [.ref v1, .ref q_t, .int v3])), (v1, .inl (cc.2.1, v2, .inl v4)), (q_t, .inl (cc.2.1, 182, .inl v5))] : va_W) ++ px_cp cc ho cm np ns hm pa sa v6 pp ss) H := hP
    have hD : va_D A (([(ho, .inr (1, [.ref v1, .ref q_t, .int v3])), (v1, .inl (cc.2.1, v2, .inl v4)), (q_t, .inl (cc.2.1, 182, .inl v5))] : va_W) ++ px_cp cc ho cm np ns hm pa sa v6 pp ss) := hD
    refine lv_icmp_gt (tgt := 16) hx hb px_d341_9 (by decide) (fun c9 => ?_) (fun c9 => ?_)
    · have hw := hw.1 c9
      exact S16 a1x v1 v2 v3 v4 v5 v6 H locs ls hP hD hS (lv_sub hl [0, 1] rfl) hw
    · have hw := hw.2 c9
      refine lv_iconst (v := 1) hx hb px_d341_12 (by decide) ?_
      refine lv_goto (tgt := 17) hx hb px_d341_13 (by decide) ?_
      exact S17 a1x 1 v1 v2 v3 v4 v5 v6 H locs ls hP hD hS (lv_sub hl [0, 1] rfl) hw

/-! MatroidDesk$Matroid.isCircuit(I)Z -/
def w275_L75 (a0x : Nat) (cm : Nat) (np : Nat) (ns : Nat) (pa : Nat → Nat) (sa : Nat → Nat) (pp : Nat → px_PR) (ss : Nat → px_SR) (post : Int32 → Nat → Nat → Int32 → (Nat → Int32) → (Nat → Int32) → (Nat → px_MR) → Prop) (x1 : Int32) (x2 : Int32) (x3 : Int32) (x4 : Int32) (q_o : Nat) (l_o : Nat) (o_reached : Int32) (g_o : Nat → Int32) (g_t : Nat → Int32) (mm : Nat → px_MR) : Prop := narrow .boolean (.int x3) = .int x3 ∧ post x3 q_o l_o o_reached g_o g_t mm
def w275_L68 (K26 : Int32 → Int32 → Int32 → Int32 → Nat → Nat → Int32 → (Nat → Int32) → (Nat → Int32) → (Nat → px_MR) → Prop) (a0x : Nat) (cm : Nat) (np : Nat) (ns : Nat) (pa : Nat → Nat) (sa : Nat → Nat) (pp : Nat → px_PR) (ss : Nat → px_SR) (post : Int32 → Nat → Nat → Int32 → (Nat → Int32) → (Nat → Int32) → (Nat → px_MR) → Prop) (x1 : Int32) (x2 : Int32) (x3 : Int32) (x4 : Int32) (y0 : Int32) (q_o : Nat) (l_o : Nat) (o_reached : Int32) (g_o : Nat → Int32) (g_t : Nat → Int32) (mm : Nat → px_MR) : Prop := ∀ z1 : Int32, z1 = x4 + 1 → K26 x1 x2 y0 z1 q_o l_o o_reached g_o g_t mm
def w275_L63 (K26 : Int32 → Int32 → Int32 → Int32 → Nat → Nat → Int32 → (Nat → Int32) → (Nat → Int32) → (Nat → px_MR) → Prop) (a0x : Nat) (cm : Nat) (np : Nat) (ns : Nat) (pa : Nat → Nat) (sa : Nat → Nat) (pp : Nat → px_PR) (ss : Nat → px_SR) (post : Int32 → Nat → Nat → Int32 → (Nat → Int32) → (Nat → Int32) → (Nat → px_MR) → Prop) (x1 : Int32) (x2 : Int32) (x3 : Int32) (x4 : Int32) (q_o : Nat) (l_o : Nat) (o_reached : Int32) (g_o : Nat → Int32) (g_t : Nat → Int32) (mm : Nat → px_MR) : Prop := w275_L68 K26 a0x cm np ns pa sa pp ss post x1 x2 x3 x4 1 q_o l_o o_reached g_o g_t mm
def w275_L26 (a0x : Nat) (cm : Nat) (np : Nat) (ns : Nat) (pa : Nat → Nat) (sa : Nat → Nat) (pp : Nat → px_PR) (ss : Nat → px_SR) (post : Int32 → Nat → Nat → Int32 → (Nat → Int32) → (Nat → Int32) → (Nat → px_MR) → Prop) : Nat → Int32 → Int32 → Int32 → Int32 → Nat → Nat → Int32 → (Nat → Int32) → (Nat → Int32) → (Nat → px_MR) → Prop
  | 0 => fun _ _ _ _ _ _ _ _ _ _ => False
  | k + 1 => fun x1 x2 x3 x4 q_o l_o o_reached g_o g_t mm => a0x < cm ∧ ((((mm a0x).2.1 13) ≤ x4 → w275_L75 a0x cm np ns pa sa pp ss post x1 x2 x3 x4 q_o l_o o_reached g_o g_t mm) ∧ (¬ ((mm a0x).2.1 13) ≤ x4 → (x3 = 0 → w275_L75 a0x cm np ns pa sa pp ss post x1 x2 x3 x4 q_o l_o o_reached g_o g_t mm) ∧ (¬ x3 = 0 → (((x1 >>> (x4 &&& 31)) &&& 1) = 0 → w275_L63 (w275_L26 a0x cm np ns pa sa pp ss post k) a0x cm np ns pa sa pp ss post x1 x2 x3 x4 q_o l_o o_reached g_o g_t mm) ∧ (¬ ((x1 >>> (x4 &&& 31)) &&& 1) = 0 → a0x < cm ∧ (a0x < cm ∧ (vp_in (x1 ^^^ ((1 : Int32) <<< (x4 &&& 31))) ((mm a0x).2.2.1 7) ∧ ((¬ (((mm a0x).2.2.2.1 7) (Int32.toNatClampNeg (x1 ^^^ ((1 : Int32) <<< (x4 &&& 31))))) = x2 → w275_L68 (w275_L26 a0x cm np ns pa sa pp ss post k) a0x cm np ns pa sa pp ss post x1 x2 x3 x4 0 q_o l_o o_reached g_o g_t mm) ∧ ((((mm a0x).2.2.2.1 7) (Int32.toNatClampNeg (x1 ^^^ ((1 : Int32) <<< (x4 &&& 31))))) = x2 → w275_L63 (w275_L26 a0x cm np ns pa sa pp ss post k) a0x cm np ns pa sa pp ss post x1 x2 x3 x4 q_o l_o o_reached g_o g_t mm))))))))
def w275_L22 (a0x : Nat) (cm : Nat) (np : Nat) (ns : Nat) (pa : Nat → Nat) (sa : Nat → Nat) (pp : Nat → px_PR) (ss : Nat → px_SR) (post : Int32 → Nat → Nat → Int32 → (Nat → Int32) → (Nat → Int32) → (Nat → px_MR) → Prop) (x1 : Int32) (x2 : Int32) (y0 : Int32) (q_o : Nat) (l_o : Nat) (o_reached : Int32) (g_o : Nat → Int32) (g_t : Nat → Int32) (mm : Nat → px_MR) : Prop := ∃ j26, w275_L26 a0x cm np ns pa sa pp ss post j26 x1 x2 y0 0 q_o l_o o_reached g_o g_t mm
def w275_wp (a0x : Nat) (cm : Nat) (np : Nat) (ns : Nat) (pa : Nat → Nat) (sa : Nat → Nat) (pp : Nat → px_PR) (ss : Nat → px_SR) (post : Int32 → Nat → Nat → Int32 → (Nat → Int32) → (Nat → Int32) → (Nat → px_MR) → Prop) (a1x : Int32) (q_o : Nat) (l_o : Nat) (o_reached : Int32) (g_o : Nat → Int32) (g_t : Nat → Int32) (mm : Nat → px_MR) : Prop := (w250_wp (fun r1  => ∀ z3 : Int32, z3 = r1 - 1 → a0x < cm ∧ (a0x < cm ∧ (vp_in a1x ((mm a0x).2.2.1 7) ∧ ((¬ (((mm a0x).2.2.2.1 7) (Int32.toNatClampNeg a1x)) = z3 → w275_L22 a0x cm np ns pa sa pp ss post a1x z3 0 q_o l_o o_reached g_o g_t mm) ∧ ((((mm a0x).2.2.2.1 7) (Int32.toNatClampNeg a1x)) = z3 → w275_L22 a0x cm np ns pa sa pp ss post a1x z3 1 q_o l_o o_reached g_o g_t mm))))) a1x)
set_option maxHeartbeats 8000000 in
set_option maxRecDepth 100000 in
theorem w275_met (l : Launch) (dC : Nat → ClassId) (dI : Nat → Nat → Nat) (sz : Nat) (ho : Nat) (q_t : Nat) (a0x : Nat) (cc : px_CC) (cm : Nat) (np : Nat) (ns : Nat) (hm : Nat → Nat) (pa : Nat → Nat) (sa : Nat → Nat) (pp : Nat → px_PR) (ss : Nat → px_SR) (a1x : Int32) (q_o : Nat) (l_o : Nat) (o_reached : Int32) (g_o : Nat → Int32) (g_t : Nat → Int32) (mm : Nat → px_MR) (post : Int32 → Nat → Nat → Int32 → (Nat → Int32) → (Nat → Int32) → (Nat → px_MR) → Prop) (hw : w275_wp a0x cm np ns pa sa pp ss post a1x q_o l_o o_reached g_o g_t mm) : Met l px_y275 px_s275 ({ frames := 1, cells := 0, slots := 0, locals := 20 }) (va_Pc [.ref (hm a0x), .int a1x] (fun U => U.heap.size = sz ∧ va_P (dC, dI) vwCl (([(ho, .inr (1, [.ref q_o, .ref q_t, .int o_reached])), (q_o, .inl (cc.2.1, l_o, .inl g_o)), (q_t, .inl (cc.2.1, 182, .inl g_t))] : va_W) ++ px_cp cc ho cm np ns hm pa sa mm pp ss) U.heap ∧ va_K (dC, dI) vwCl [(cc.2.1, .int), (cc.2.2.2.1, .byte), (cc.2.2.2.2, .long), (cc.1, .object "MatroidDesk$Part"), (cc.2.2.1, (.array .int))] U ∧ va_D (fun _ => True) (([(ho, .inr (1, [.ref q_o, .ref q_t, .int o_reached])), (q_o, .inl (cc.2.1, l_o, .inl g_o)), (q_t, .inl (cc.2.1, 182, .inl g_t))] : va_W) ++ px_cp cc ho cm np ns hm pa sa mm pp ss) ∧ px_N U)) (va_Qi (fun (r : Int32) (u : Nat × Nat × Int32 × (Nat → Int32) × (Nat → Int32) × (Nat → px_MR)) => post r u.1 u.2.1 u.2.2.1 u.2.2.2.1 u.2.2.2.2.1 u.2.2.2.2.2) (fun (u : Nat × Nat × Int32 × (Nat → Int32) × (Nat → Int32) × (Nat → px_MR)) (t : State) => va_P (dC, dI) vwCl (([(ho, .inr (1, [.ref u.1, .ref q_t, .int u.2.2.1])), (u.1, .inl (cc.2.1, u.2.1, .inl u.2.2.2.1)), (q_t, .inl (cc.2.1, 182, .inl u.2.2.2.2.1))] : va_W) ++ px_cp cc ho cm np ns hm pa sa u.2.2.2.2.2 pp ss) t.heap ∧ va_K (dC, dI) vwCl [(cc.2.1, .int), (cc.2.2.2.1, .byte), (cc.2.2.2.2, .long), (cc.1, .object "MatroidDesk$Part"), (cc.2.2.1, (.array .int))] t ∧ va_D (va_A (([(ho, .inr (1, [.ref q_o, .ref q_t, .int o_reached])), (q_o, .inl (cc.2.1, l_o, .inl g_o)), (q_t, .inl (cc.2.1, 182, .inl g_t))] : va_W) ++ px_cp cc ho cm np ns hm pa sa mm pp ss) sz) (([(ho, .inr (1, [.ref u.1, .ref q_t, .int u.2.2.1])), (u.1, .inl (cc.2.1, u.2.1, .inl u.2.2.2.1)), (q_t, .inl (cc.2.1, 182, .inl u.2.2.2.2.1))] : va_W) ++ px_cp cc ho cm np ns hm pa sa u.2.2.2.2.2 pp ss)) (va_A (([(ho, .inr (1, [.ref q_o, .ref q_t, .int o_reached])), (q_o, .inl (cc.2.1, l_o, .inl g_o)), (q_t, .inl (cc.2.1, 182, .inl g_t))] : va_W) ++ px_cp cc ho cm np ns hm pa sa mm pp ss) sz)) 0 0 (va_A (([(ho, .inr (1, [.ref q_o, .ref q_t, .int o_reached])), (q_o, .inl (cc.2.1, l_o, .inl g_o)), (q_t, .inl (cc.2.1, 182, .inl g_t))] : va_W) ++ px_cp cc ho cm np ns hm pa sa mm pp ss) sz) := by
  refine Met.ofW (cc := prog_3_method_27_code) (maxL := 5) (ret := (some .boolean)) (by decide) rfl ?_
  intro p e s m args below meth c s₁ B hml hv
  obtain ⟨rfl, hsz, hP, hK, hD0, hN⟩ := hv
  have hx := B.exec
  have hb := B.bytes
  have hr := B.returns
  have htw : ∀ w ∈ px_all, w.before _ s = true := fun w h => atoms_spec (ws := px_s275) B.pre w (List.mem_cons_of_mem _ h)
  have hown : s.vm.findClass "MatroidDesk$Matroid" = some m.cls := findClass_of_methodNamed B.named
  have hlocks := B.notSynchronized
  subst hsz
  have hD := hD0.self (sz := s.heap.size)
  generalize hAe : va_A (([(ho, .inr (1, [.ref q_o, .ref q_t, .int o_reached])), (q_o, .inl (cc.2.1, l_o, .inl g_o)), (q_t, .inl (cc.2.1, 182, .inl g_t))] : va_W) ++ px_cp cc ho cm np ns hm pa sa mm pp ss) s.heap.size = A at hD ⊢
  have hA : ∀ q : Nat, s.heap.size ≤ q → A q := fun q h => by rw [← hAe]; exact Or.inr h
  have hS : va_S A s.heap s.heap [] := va_S.rf
  have hP : va_P (dC, dI) vwCl (([(ho, .inr (1, [.ref q_o, .ref q_t, .int o_reached])), (q_o, .inl (cc.2.1, l_o, .inl g_o)), (q_t, .inl (cc.2.1, 182, .inl g_t))] : va_W) ++ px_cp cc ho cm np ns hm pa sa mm pp ss) s.heap := hP
  have hl := lv_entry ([.ref (hm a0x), .int a1x]) (n := 5) (Nat.le_of_ble_eq_true rfl)
  rw [lg_entry_eq]
  generalize (lg_sl ([.ref (hm a0x), .int a1x]) ++ List.replicate (5 - (lg_sl ([.ref (hm a0x), .int a1x])).length) Slot.unset).toArray = ls at hl ⊢
  have hl : lv_has ls 5 [(0, .ref (hm a0x)), (1, .int a1x)] := hl
  generalize hQ : MQ _ _ _ _ _ _ _ = Q
  have S75 : ∀ (x1 : Int32) (x2 : Int32) (x3 : Int32) (x4 : Int32) (q_o : Nat) (l_o : Nat) (o_reached : Int32) (g_o : Nat → Int32) (g_t : Nat → Int32) (mm : Nat → px_MR) (H : Heap) (locs : List Loc) (ls : Array Slot), va_P (dC, dI) vwCl (([(ho, .inr (1, [.ref q_o, .ref q_t, .int o_reached])), (q_o, .inl (cc.2.1, l_o, .inl g_o)), (q_t, .inl (cc.2.1, 182, .inl g_t))] : va_W) ++ px_cp cc ho cm np ns hm pa sa mm pp ss) H → va_D A (([(ho, .inr (1, [.ref q_o, .ref q_t, .int o_reached])), (q_o, .inl (cc.2.1, l_o, .inl g_o)), (q_t, .inl (cc.2.1, 182, .inl g_t))] : va_W) ++ px_cp cc ho cm np ns hm pa sa mm pp ss) → va_S A s.heap H locs → lv_has ls 5 [(0, .ref (hm a0x)), (1, .int x1), (2, .int x2), (3, .int x3), (4, .int x4)] → w275_L75 a0x cm np ns pa sa pp ss post x1 x2 x3 x4 q_o l_o o_reached g_o g_t mm → W p l e (headSpec px_s275 ({ frames := 1, cells := 0, slots := 0, locals := 20 })).room s m ([.ref (hm a0x), .int a1x]).toArray below meth c H locs 0 0 Q (F0 m 75 ls []) := by
    intro x1 x2 x3 x4 q_o l_o o_reached g_o g_t mm H locs ls hP hD hS hl hw
    unfold w275_L75 at hw
    refine lv_iload_n hx hb px_d275_75 rfl (lv_at hl 3 rfl) ?_
    obtain ⟨hz9, hw⟩ := hw
    rw [← hQ]
    exact W.zret (v := x3) hx hb hr hz9 (fun t ht hW => ⟨⟨x3, (q_o, l_o, o_reached, g_o, g_t, mm), rfl, hw, by rw [ht]; exact hP, va_K.moved hW.alike hK, hD⟩, hS.F ht⟩) hS.2.2 px_d275_76
  have S26 : ∀ (k26 : Nat) (x1 : Int32) (x2 : Int32) (x3 : Int32) (x4 : Int32) (q_o : Nat) (l_o : Nat) (o_reached : Int32) (g_o : Nat → Int32) (g_t : Nat → Int32) (mm : Nat → px_MR) (H : Heap) (locs : List Loc) (ls : Array Slot), va_P (dC, dI) vwCl (([(ho, .inr (1, [.ref q_o, .ref q_t, .int o_reached])), (q_o, .inl (cc.2.1, l_o, .inl g_o)), (q_t, .inl (cc.2.1, 182, .inl g_t))] : va_W) ++ px_cp cc ho cm np ns hm pa sa mm pp ss) H → va_D A (([(ho, .inr (1, [.ref q_o, .ref q_t, .int o_reached])), (q_o, .inl (cc.2.1, l_o, .inl g_o)), (q_t, .inl (cc.2.1, 182, .inl g_t))] : va_W) ++ px_cp cc ho cm np ns hm pa sa mm pp ss) → va_S A s.heap H locs → lv_has ls 5 [(0, .ref (hm a0x)), (1, .int x1), (2, .int x2), (3, .int x3), (4, .int x4)] → w275_L26 a0x cm np ns pa sa pp ss post k26 x1 x2 x3 x4 q_o l_o o_reached g_o g_t mm → W p l e (headSpec px_s275 ({ frames := 1, cells := 0, slots := 0, locals := 20 })).room s m ([.ref (hm a0x), .int a1x]).toArray below meth c H locs 0 0 Q (F0 m 26 ls []) := by
    intro k26
    induction k26 with
    | zero => intro x1 x2 x3 x4 q_o l_o o_reached g_o g_t mm H locs ls hP hD hS hl hw; exact False.elim hw
    | succ k26 ih26 =>
      have S68 : ∀ (x1 : Int32) (x2 : Int32) (x3 : Int32) (x4 : Int32) (y0 : Int32) (q_o : Nat) (l_o : Nat) (o_reached : Int32) (g_o : Nat → Int32) (g_t : Nat → Int32) (mm : Nat → px_MR) (H : Heap) (locs : List Loc) (ls : Array Slot), va_P (dC, dI) vwCl (([(ho, .inr (1, [.ref q_o, .ref q_t, .int o_reached])), (q_o, .inl (cc.2.1, l_o, .inl g_o)), (q_t, .inl (cc.2.1, 182, .inl g_t))] : va_W) ++ px_cp cc ho cm np ns hm pa sa mm pp ss) H → va_D A (([(ho, .inr (1, [.ref q_o, .ref q_t, .int o_reached])), (q_o, .inl (cc.2.1, l_o, .inl g_o)), (q_t, .inl (cc.2.1, 182, .inl g_t))] : va_W) ++ px_cp cc ho cm np ns hm pa sa mm pp ss) → va_S A s.heap H locs → lv_has ls 5 [(0, .ref (hm a0x)), (1, .int x1), (2, .int x2), (3, .int x3), (4, .int x4)] → w275_L68 (w275_L26 a0x cm np ns pa sa pp ss post k26) a0x cm np ns pa sa pp ss post x1 x2 x3 x4 y0 q_o l_o o_reached g_o g_t mm → W p l e (headSpec px_s275 ({ frames := 1, cells := 0, slots := 0, locals := 20 })).room s m ([.ref (hm a0x), .int a1x]).toArray below meth c H locs 0 0 Q (F0 m 68 ls [.int y0]) := by
        intro x1 x2 x3 x4 y0 q_o l_o o_reached g_o g_t mm H locs ls hP hD hS hl hw
        unfold w275_L68 at hw
        refine lv_istore_n (lv' := [(3, .int y0), (0, .ref (hm a0x)), (1, .int x1), (2, .int x2), (4, .int x4)]) hx hb px_d275_68 rfl hl (by decide) rfl (fun ls hl => ?_)
        obtain ⟨z1, ez1⟩ : ∃ y : Int32, y = x4 + 1 := ⟨_, rfl⟩
        have hw := hw z1 ez1
        refine lv_iinc (v := z1) (lv' := [(4, .int z1), (3, .int y0), (0, .ref (hm a0x)), (1, .int x1), (2, .int x2)]) hx hb px_d275_69 hl (k := 4) rfl (by rw [ez1]; rfl) (by decide) rfl (fun ls hl => ?_)
        refine lv_goto (tgt := 26) hx hb px_d275_72 (by decide) ?_
        exact ih26 x1 x2 y0 z1 q_o l_o o_reached g_o g_t mm H locs ls hP hD hS (lv_sub hl [2, 3, 4, 1, 0] rfl) hw
      have S63 : ∀ (x1 : Int32) (x2 : Int32) (x3 : Int32) (x4 : Int32) (q_o : Nat) (l_o : Nat) (o_reached : Int32) (g_o : Nat → Int32) (g_t : Nat → Int32) (mm : Nat → px_MR) (H : Heap) (locs : List Loc) (ls : Array Slot), va_P (dC, dI) vwCl (([(ho, .inr (1, [.ref q_o, .ref q_t, .int o_reached])), (q_o, .inl (cc.2.1, l_o, .inl g_o)), (q_t, .inl (cc.2.1, 182, .inl g_t))] : va_W) ++ px_cp cc ho cm np ns hm pa sa mm pp ss) H → va_D A (([(ho, .inr (1, [.ref q_o, .ref q_t, .int o_reached])), (q_o, .inl (cc.2.1, l_o, .inl g_o)), (q_t, .inl (cc.2.1, 182, .inl g_t))] : va_W) ++ px_cp cc ho cm np ns hm pa sa mm pp ss) → va_S A s.heap H locs → lv_has ls 5 [(0, .ref (hm a0x)), (1, .int x1), (2, .int x2), (3, .int x3), (4, .int x4)] → w275_L63 (w275_L26 a0x cm np ns pa sa pp ss post k26) a0x cm np ns pa sa pp ss post x1 x2 x3 x4 q_o l_o o_reached g_o g_t mm → W p l e (headSpec px_s275 ({ frames := 1, cells := 0, slots := 0, locals := 20 })).room s m ([.ref (hm a0x), .int a1x]).toArray below meth c H locs 0 0 Q (F0 m 63 ls []) := by
        intro x1 x2 x3 x4 q_o l_o o_reached g_o g_t mm H locs ls hP hD hS hl hw
        unfold w275_L63 at hw
        refine lv_iconst (v := 1) hx hb px_d275_63 (by decide) ?_
        refine lv_goto (tgt := 68) hx hb px_d275_64 (by decide) ?_
        exact S68 x1 x2 x3 x4 1 q_o l_o o_reached g_o g_t mm H locs ls hP hD hS (lv_sub hl [0, 1, 2, 3, 4] rfl) hw
      intro x1 x2 x3 x4 q_o l_o o_reached g_o g_t mm H locs ls hP hD hS hl hw
      unfold w275_L26 at hw
      refine lv_iload hx hb px_d275_26 (lv_at hl 4 rfl) ?_
      refine lv_aload_n hx hb px_d275_28 rfl (lv_at hl 0 rfl) ?_
      obtain ⟨hp29, hw⟩ := hw
      refine va_get (D := (dC, dI)) (ci := 10) (v := .int ((mm a0x).2.1 13)) (C := "MatroidDesk$Matroid") (T := px_T10) (N := 15) hx hb htw px_in10 hown hK hP (3 + (13 * a0x + 0)) (px_cg0 rfl hp29) rfl 13 (by decide) (htw _ px_w1264) (fun _ h9 => h9) rfl px_d275_29 ?_
      refine lv_icmp_ge (tgt := 75) hx hb px_d275_32 (by decide) (fun c32 => ?_) (fun c32 => ?_)
      · have hw := hw.1 c32
        exact S75 x1 x2 x3 x4 q_o l_o o_reached g_o g_t mm H locs ls hP hD hS (lv_sub hl [0, 1, 2, 3, 4] rfl) hw
      · have hw := hw.2 c32
        refine lv_iload_n hx hb px_d275_35 rfl (lv_at hl 3 rfl) ?_
        refine lv_if_eq (tgt := 75) hx hb px_d275_36 (by decide) (fun c36 => ?_) (fun c36 => ?_)
        · have hw := hw.1 c36
          exact S75 x1 x2 x3 x4 q_o l_o o_reached g_o g_t mm H locs ls hP hD hS (lv_sub hl [0, 1, 2, 3, 4] rfl) hw
        · have hw := hw.2 c36
          refine lv_iload_n hx hb px_d275_39 rfl (lv_at hl 1 rfl) ?_
          refine lv_iload hx hb px_d275_40 (lv_at hl 4 rfl) ?_
          refine lv_ishr hx hb px_d275_42 ?_
          refine lv_iconst (v := 1) hx hb px_d275_43 (by decide) ?_
          refine lv_iand hx hb px_d275_44 ?_
          refine lv_if_eq (tgt := 63) hx hb px_d275_45 (by decide) (fun c45 => ?_) (fun c45 => ?_)
          · have hw := hw.1 c45
            exact S63 x1 x2 x3 x4 q_o l_o o_reached g_o g_t mm H locs ls hP hD hS (lv_sub hl [0, 1, 2, 3, 4] rfl) hw
          · have hw := hw.2 c45
            refine lv_aload_n hx hb px_d275_48 rfl (lv_at hl 0 rfl) ?_
            obtain ⟨hp49, hw⟩ := hw
            refine va_get (D := (dC, dI)) (ci := 10) (v := .ref ((mm a0x).1 7)) (C := "MatroidDesk$Matroid") (T := px_T10) (N := 15) hx hb htw px_in10 hown hK hP (3 + (13 * a0x + 0)) (px_cg0 rfl hp49) rfl 7 (by decide) (htw _ px_w1006) (fun _ h9 => h9) rfl px_d275_49 ?_
            refine lv_iload_n hx hb px_d275_52 rfl (lv_at hl 1 rfl) ?_
            refine lv_iconst (v := 1) hx hb px_d275_53 (by decide) ?_
            refine lv_iload hx hb px_d275_54 (lv_at hl 4 rfl) ?_
            refine lv_ishl hx hb px_d275_56 ?_
            refine lv_ixor hx hb px_d275_57 ?_
            obtain ⟨hp58, hw⟩ := hw
            obtain ⟨hi58, hw⟩ := hw
            refine va_bald hx hb hK hP (3 + (13 * a0x + 7)) 1 (px_cg7 rfl hp58) rfl hi58 px_d275_58 ?_
            refine lv_iload_n hx hb px_d275_59 rfl (lv_at hl 2 rfl) ?_
            refine lv_icmp_ne (tgt := 67) hx hb px_d275_60 (by decide) (fun c60 => ?_) (fun c60 => ?_)
            · have hw := hw.1 c60
              refine lv_iconst (v := 0) hx hb px_d275_67 (by decide) ?_
              exact S68 x1 x2 x3 x4 0 q_o l_o o_reached g_o g_t mm H locs ls hP hD hS (lv_sub hl [0, 1, 2, 3, 4] rfl) hw
            · have hw := hw.2 c60
              exact S63 x1 x2 x3 x4 q_o l_o o_reached g_o g_t mm H locs ls hP hD hS (lv_sub hl [0, 1, 2, 3, 4] rfl) hw
  have S22 : ∀ (x1 : Int32) (x2 : Int32) (y0 : Int32) (q_o : Nat) (l_o : Nat) (o_reached : Int32) (g_o : Nat → Int32) (g_t : Nat → Int32) (mm : Nat → px_MR) (H : Heap) (locs : List Loc) (ls : Array Slot), va_P (dC, dI) vwCl (([(ho, .inr (1, [.ref q_o, .ref q_t, .int o_reached])), (q_o, .inl (cc.2.1, l_o, .inl g_o)), (q_t, .inl (cc.2.1, 182, .inl g_t))] : va_W) ++ px_cp cc ho cm np ns hm pa sa mm pp ss) H → va_D A (([(ho, .inr (1, [.ref q_o, .ref q_t, .int o_reached])), (q_o, .inl (cc.2.1, l_o, .inl g_o)), (q_t, .inl (cc.2.1, 182, .inl g_t))] : va_W) ++ px_cp cc ho cm np ns hm pa sa mm pp ss) → va_S A s.heap H locs → lv_has ls 5 [(0, .ref (hm a0x)), (1, .int x1), (2, .int x2)] → w275_L22 a0x cm np ns pa sa pp ss post x1 x2 y0 q_o l_o o_reached g_o g_t mm → W p l e (headSpec px_s275 ({ frames := 1, cells := 0, slots := 0, locals := 20 })).room s m ([.ref (hm a0x), .int a1x]).toArray below meth c H locs 0 0 Q (F0 m 22 ls [.int y0]) := by
    intro x1 x2 y0 q_o l_o o_reached g_o g_t mm H locs ls hP hD hS hl hw
    unfold w275_L22 at hw
    refine lv_istore_n (lv' := [(3, .int y0), (0, .ref (hm a0x)), (1, .int x1), (2, .int x2)]) hx hb px_d275_22 rfl hl (by decide) rfl (fun ls hl => ?_)
    refine lv_iconst (v := 0) hx hb px_d275_23 (by decide) ?_
    refine lv_istore (lv' := [(4, .int 0), (3, .int y0), (0, .ref (hm a0x)), (1, .int x1), (2, .int x2)]) hx hb px_d275_24 hl (by decide) rfl (fun ls hl => ?_)
    obtain ⟨k9, hw⟩ := hw
    exact S26 k9 x1 x2 y0 0 q_o l_o o_reached g_o g_t mm H locs ls hP hD hS (lv_sub hl [2, 3, 4, 1, 0] rfl) hw
  unfold w275_wp at hw
  have hS0 := hS
  obtain ⟨H, hH9⟩ : ∃ z, z = s.heap := ⟨_, rfl⟩
  have hP : va_P (dC, dI) vwCl (([(ho, .inr (1, [.ref q_o, .ref q_t, .int o_reached])), (q_o, .inl (cc.2.1, l_o, .inl g_o)), (q_t, .inl (cc.2.1, 182, .inl g_t))] : va_W) ++ px_cp cc ho cm np ns hm pa sa mm pp ss) H := by rw [hH9]; exact hP
  obtain ⟨locs, hlo9⟩ : ∃ z : List Loc, z = [] := ⟨_, rfl⟩
  have hS : va_S A s.heap H locs := by rw [hH9, hlo9]; exact hS
  suffices hG : W p l e (headSpec px_s275 ({ frames := 1, cells := 0, slots := 0, locals := 20 })).room s m ([.ref (hm a0x), .int a1x]).toArray below meth c H locs 0 0 Q (F0 m 0 ls []) by rw [hH9, hlo9] at hG; exact hG
  refine lv_iload_n hx hb px_d275_0 rfl (lv_at hl 1 rfl) ?_
  have hPc := hP.sub (ws' := []) [] rfl
  have hDc := hD.sub (ws' := []) [] (by decide) rfl
  have hFc := va_free (wc := []) hD hS hA [] rfl
  have hKc := hK.sub (tys' := []) [] rfl
  refine va_calli (va_runS (As := [.int a1x]) (rest := []) ⟨hx, hb, hml, hown, htw⟩ (w250_met l dC dI H.size a1x _ hw) (va_cwS 1 htw (px_gs2 px_w1266 px_w1290 px_w1764 px_g250) rfl rfl rfl (by decide +kernel) ⟨Nat.le_of_ble_eq_true rfl, Nat.le_of_ble_eq_true rfl⟩) ⟨fun a U g mk q => by obtain ⟨q0, q1, qP, qK, qD, qN⟩ := q; exact ⟨q0, q1, qP, va_K.moved (u := U) (U := U.calling g mk a) (Vm.Alike.refl U.vm) qK, qD, qN.same rfl⟩, fun U hU hW => ⟨rfl, by rw [hU], by rw [hU]; exact hPc, va_K.moved hW.alike hKc, hDc.weaken (fun _ _ _ _ => trivial), hN.warm hW⟩⟩ rfl rfl hl.1 rfl (lv_room (Nat.le_of_ble_eq_true rfl)) px_d275_1 ⟨(Nat.le_of_ble_eq_true rfl), (Nat.le_of_ble_eq_true rfl)⟩) hS (fun q _ h => hFc q h) hFc (fun r1 u t H1 locs ht hvm hw hB hz1 hk1 hS => ?_)
  obtain ⟨hP1, hK1, hD1⟩ := hB
  rw [ht] at hP1
  obtain ⟨hP, hD⟩ := va_joinQ (wr := [(ho, .inr (1, [.ref q_o, .ref q_t, .int o_reached])), (q_o, .inl (cc.2.1, l_o, .inl g_o)), (q_t, .inl (cc.2.1, 182, .inl g_t))]) (w1 := []) hP hD [] [0, 1, 2] rfl rfl (by decide) (by decide) hk1 hFc hP1 hD1
  generalize H1 = H at hP hS ⊢
  have hP : va_P (dC, dI) vwCl (([(ho, .inr (1, [.ref q_o, .ref q_t, .int o_reached])), (q_o, .inl (cc.2.1, l_o, .inl g_o)), (q_t, .inl (cc.2.1, 182, .inl g_t))] : va_W) ++ px_cp cc ho cm np ns hm pa sa mm pp ss) H := hP
  have hD : va_D A (([(ho, .inr (1, [.ref q_o, .ref q_t, .int o_reached])), (q_o, .inl (cc.2.1, l_o, .inl g_o)), (q_t, .inl (cc.2.1, 182, .inl g_t))] : va_W) ++ px_cp cc ho cm np ns hm pa sa mm pp ss) := hD
  refine lv_iconst (v := 1) hx hb px_d275_4 (by decide) ?_
  refine lv_isub hx hb px_d275_5 ?_
  refine lv_topi (fun z3 ez3 => ?_)
  have hw := hw z3 ez3
  refine lv_istore_n (lv' := [(2, .int z3), (0, .ref (hm a0x)), (1, .int a1x)]) hx hb px_d275_6 rfl hl (by decide) rfl (fun ls hl => ?_)
  refine lv_aload_n hx hb px_d275_7 rfl (lv_at hl 1 rfl) ?_
  obtain ⟨hp8, hw⟩ := hw
  refine va_get (D := (dC, dI)) (ci := 10) (v := .ref ((mm a0x).1 7)) (C := "MatroidDesk$Matroid") (T := px_T10) (N := 15) hx hb htw px_in10 hown hK hP (3 + (13 * a0x + 0)) (px_cg0 rfl hp8) rfl 7 (by decide) (htw _ px_w1006) (fun _ h9 => h9) rfl px_d275_8 ?_
  refine lv_iload_n hx hb px_d275_11 rfl (lv_at hl 2 rfl) ?_
  obtain ⟨hp12, hw⟩ := hw
  obtain ⟨hi12, hw⟩ := hw
  refine va_bald hx hb hK hP (3 + (13 * a0x + 7)) 1 (px_cg7 rfl hp12) rfl hi12 px_d275_12 ?_
  refine lv_iload_n hx hb px_d275_13 rfl (lv_at hl 0 rfl) ?_
  refine lv_icmp_ne (tgt := 21) hx hb px_d275_14 (by decide) (fun c14 => ?_) (fun c14 => ?_)
  · have hw := hw.1 c14
    refine lv_iconst (v := 0) hx hb px_d275_21 (by decide) ?_
    exact S22 a1x z3 0 q_o l_o o_reached g_o g_t mm H locs ls hP hD hS (lv_sub hl [1, 2, 0] rfl) hw
  · have hw := hw.2 c14
    refine lv_iconst (v := 1) hx hb px_d275_17 (by decide) ?_
    refine lv_goto (tgt := 22) hx hb px_d275_18 (by decide) ?_
    exact S22 a1x z3 1 q_o l_o o_reached g_o g_t mm H locs ls hP hD hS (lv_sub hl [1, 2, 0] rfl) hw

/-! MatroidDesk$Matroid.isFlat(I)Z -/
def w276_L55 (a0x : Nat) (cm : Nat) (np : Nat) (ns : Nat) (pa : Nat → Nat) (sa : Nat → Nat) (pp : Nat → px_PR) (ss : Nat → px_SR) (post : Int32 → Nat → Nat → Int32 → (Nat → Int32) → (Nat → Int32) → (Nat → px_MR) → Prop) (x1 : Int32) (x2 : Int32) (x3 : Int32) (q_o : Nat) (l_o : Nat) (o_reached : Int32) (g_o : Nat → Int32) (g_t : Nat → Int32) (mm : Nat → px_MR) : Prop := narrow .boolean (.int x2) = .int x2 ∧ post x2 q_o l_o o_reached g_o g_t mm
def w276_L48 (K4 : Int32 → Int32 → Int32 → Nat → Nat → Int32 → (Nat → Int32) → (Nat → Int32) → (Nat → px_MR) → Prop) (a0x : Nat) (cm : Nat) (np : Nat) (ns : Nat) (pa : Nat → Nat) (sa : Nat → Nat) (pp : Nat → px_PR) (ss : Nat → px_SR) (post : Int32 → Nat → Nat → Int32 → (Nat → Int32) → (Nat → Int32) → (Nat → px_MR) → Prop) (x1 : Int32) (x2 : Int32) (x3 : Int32) (y0 : Int32) (q_o : Nat) (l_o : Nat) (o_reached : Int32) (g_o : Nat → Int32) (g_t : Nat → Int32) (mm : Nat → px_MR) : Prop := ∀ z1 : Int32, z1 = x3 + 1 → K4 x1 y0 z1 q_o l_o o_reached g_o g_t mm
def w276_L43 (K4 : Int32 → Int32 → Int32 → Nat → Nat → Int32 → (Nat → Int32) → (Nat → Int32) → (Nat → px_MR) → Prop) (a0x : Nat) (cm : Nat) (np : Nat) (ns : Nat) (pa : Nat → Nat) (sa : Nat → Nat) (pp : Nat → px_PR) (ss : Nat → px_SR) (post : Int32 → Nat → Nat → Int32 → (Nat → Int32) → (Nat → Int32) → (Nat → px_MR) → Prop) (x1 : Int32) (x2 : Int32) (x3 : Int32) (q_o : Nat) (l_o : Nat) (o_reached : Int32) (g_o : Nat → Int32) (g_t : Nat → Int32) (mm : Nat → px_MR) : Prop := w276_L48 K4 a0x cm np ns pa sa pp ss post x1 x2 x3 1 q_o l_o o_reached g_o g_t mm
def w276_L4 (a0x : Nat) (cm : Nat) (np : Nat) (ns : Nat) (pa : Nat → Nat) (sa : Nat → Nat) (pp : Nat → px_PR) (ss : Nat → px_SR) (post : Int32 → Nat → Nat → Int32 → (Nat → Int32) → (Nat → Int32) → (Nat → px_MR) → Prop) : Nat → Int32 → Int32 → Int32 → Nat → Nat → Int32 → (Nat → Int32) → (Nat → Int32) → (Nat → px_MR) → Prop
  | 0 => fun _ _ _ _ _ _ _ _ _ => False
  | k + 1 => fun x1 x2 x3 q_o l_o o_reached g_o g_t mm => a0x < cm ∧ ((((mm a0x).2.1 13) ≤ x3 → w276_L55 a0x cm np ns pa sa pp ss post x1 x2 x3 q_o l_o o_reached g_o g_t mm) ∧ (¬ ((mm a0x).2.1 13) ≤ x3 → (x2 = 0 → w276_L55 a0x cm np ns pa sa pp ss post x1 x2 x3 q_o l_o o_reached g_o g_t mm) ∧ (¬ x2 = 0 → (¬ ((x1 >>> (x3 &&& 31)) &&& 1) = 0 → w276_L43 (w276_L4 a0x cm np ns pa sa pp ss post k) a0x cm np ns pa sa pp ss post x1 x2 x3 q_o l_o o_reached g_o g_t mm) ∧ (((x1 >>> (x3 &&& 31)) &&& 1) = 0 → a0x < cm ∧ (a0x < cm ∧ (vp_in (x1 ||| ((1 : Int32) <<< (x3 &&& 31))) ((mm a0x).2.2.1 7) ∧ (a0x < cm ∧ (a0x < cm ∧ (vp_in x1 ((mm a0x).2.2.1 7) ∧ (((((mm a0x).2.2.2.1 7) (Int32.toNatClampNeg (x1 ||| ((1 : Int32) <<< (x3 &&& 31))))) ≤ (((mm a0x).2.2.2.1 7) (Int32.toNatClampNeg x1)) → w276_L48 (w276_L4 a0x cm np ns pa sa pp ss post k) a0x cm np ns pa sa pp ss post x1 x2 x3 0 q_o l_o o_reached g_o g_t mm) ∧ (¬ (((mm a0x).2.2.2.1 7) (Int32.toNatClampNeg (x1 ||| ((1 : Int32) <<< (x3 &&& 31))))) ≤ (((mm a0x).2.2.2.1 7) (Int32.toNatClampNeg x1)) → w276_L43 (w276_L4 a0x cm np ns pa sa pp ss post k) a0x cm np ns pa sa pp ss post x1 x2 x3 q_o l_o o_reached g_o g_t mm)))))))))))
def w276_wp (a0x : Nat) (cm : Nat) (np : Nat) (ns : Nat) (pa : Nat → Nat) (sa : Nat → Nat) (pp : Nat → px_PR) (ss : Nat → px_SR) (post : Int32 → Nat → Nat → Int32 → (Nat → Int32) → (Nat → Int32) → (Nat → px_MR) → Prop) (a1x : Int32) (q_o : Nat) (l_o : Nat) (o_reached : Int32) (g_o : Nat → Int32) (g_t : Nat → Int32) (mm : Nat → px_MR) : Prop := ∃ j4, w276_L4 a0x cm np ns pa sa pp ss post j4 a1x 1 0 q_o l_o o_reached g_o g_t mm
set_option maxHeartbeats 8000000 in
set_option maxRecDepth 100000 in
theorem w276_met (l : Launch) (dC : Nat → ClassId) (dI : Nat → Nat → Nat) (sz : Nat) (ho : Nat) (q_t : Nat) (a0x : Nat) (cc : px_CC) (cm : Nat) (np : Nat) (ns : Nat) (hm : Nat → Nat) (pa : Nat → Nat) (sa : Nat → Nat) (pp : Nat → px_PR) (ss : Nat → px_SR) (a1x : Int32) (q_o : Nat) (l_o : Nat) (o_reached : Int32) (g_o : Nat → Int32) (g_t : Nat → Int32) (mm : Nat → px_MR) (post : Int32 → Nat → Nat → Int32 → (Nat → Int32) → (Nat → Int32) → (Nat → px_MR) → Prop) (hw : w276_wp a0x cm np ns pa sa pp ss post a1x q_o l_o o_reached g_o g_t mm) : Met l px_y276 px_s276 ({ frames := 0, cells := 0, slots := 0, locals := 0 }) (va_Pc [.ref (hm a0x), .int a1x] (fun U => U.heap.size = sz ∧ va_P (dC, dI) vwCl (([(ho, .inr (1, [.ref q_o, .ref q_t, .int o_reached])), (q_o, .inl (cc.2.1, l_o, .inl g_o)), (q_t, .inl (cc.2.1, 182, .inl g_t))] : va_W) ++ px_cp cc ho cm np ns hm pa sa mm pp ss) U.heap ∧ va_K (dC, dI) vwCl [(cc.2.1, .int), (cc.2.2.2.1, .byte), (cc.2.2.2.2, .long), (cc.1, .object "MatroidDesk$Part"), (cc.2.2.1, (.array .int))] U ∧ va_D (fun _ => True) (([(ho, .inr (1, [.ref q_o, .ref q_t, .int o_reached])), (q_o, .inl (cc.2.1, l_o, .inl g_o)), (q_t, .inl (cc.2.1, 182, .inl g_t))] : va_W) ++ px_cp cc ho cm np ns hm pa sa mm pp ss) ∧ px_N U)) (va_Qi (fun (r : Int32) (u : Nat × Nat × Int32 × (Nat → Int32) × (Nat → Int32) × (Nat → px_MR)) => post r u.1 u.2.1 u.2.2.1 u.2.2.2.1 u.2.2.2.2.1 u.2.2.2.2.2) (fun (u : Nat × Nat × Int32 × (Nat → Int32) × (Nat → Int32) × (Nat → px_MR)) (t : State) => va_P (dC, dI) vwCl (([(ho, .inr (1, [.ref u.1, .ref q_t, .int u.2.2.1])), (u.1, .inl (cc.2.1, u.2.1, .inl u.2.2.2.1)), (q_t, .inl (cc.2.1, 182, .inl u.2.2.2.2.1))] : va_W) ++ px_cp cc ho cm np ns hm pa sa u.2.2.2.2.2 pp ss) t.heap ∧ va_K (dC, dI) vwCl [(cc.2.1, .int), (cc.2.2.2.1, .byte), (cc.2.2.2.2, .long), (cc.1, .object "MatroidDesk$Part"), (cc.2.2.1, (.array .int))] t ∧ va_D (va_A (([(ho, .inr (1, [.ref q_o, .ref q_t, .int o_reached])), (q_o, .inl (cc.2.1, l_o, .inl g_o)), (q_t, .inl (cc.2.1, 182, .inl g_t))] : va_W) ++ px_cp cc ho cm np ns hm pa sa mm pp ss) sz) (([(ho, .inr (1, [.ref u.1, .ref q_t, .int u.2.2.1])), (u.1, .inl (cc.2.1, u.2.1, .inl u.2.2.2.1)), (q_t, .inl (cc.2.1, 182, .inl u.2.2.2.2.1))] : va_W) ++ px_cp cc ho cm np ns hm pa sa u.2.2.2.2.2 pp ss)) (va_A (([(ho, .inr (1, [.ref q_o, .ref q_t, .int o_reached])), (q_o, .inl (cc.2.1, l_o, .inl g_o)), (q_t, .inl (cc.2.1, 182, .inl g_t))] : va_W) ++ px_cp cc ho cm np ns hm pa sa mm pp ss) sz)) 0 0 (va_A (([(ho, .inr (1, [.ref q_o, .ref q_t, .int o_reached])), (q_o, .inl (cc.2.1, l_o, .inl g_o)), (q_t, .inl (cc.2.1, 182, .inl g_t))] : va_W) ++ px_cp cc ho cm np ns hm pa sa mm pp ss) sz) := by
  refine Met.ofW (cc := prog_3_method_28_code) (maxL := 4) (ret := (some .boolean)) (by decide) rfl ?_
  intro p e s m args below meth c s₁ B hml hv
  obtain ⟨rfl, hsz, hP, hK, hD0, hN⟩ := hv
  have hx := B.exec
  have hb := B.bytes
  have hr := B.returns
  have htw : ∀ w ∈ px_all, w.before _ s = true := fun w h => atoms_spec (ws := px_s276) B.pre w (List.mem_cons_of_mem _ h)
  have hown : s.vm.findClass "MatroidDesk$Matroid" = some m.cls := findClass_of_methodNamed B.named
  have hlocks := B.notSynchronized
  subst hsz
  have hD := hD0.self (sz := s.heap.size)
  generalize hAe : va_A (([(ho, .inr (1, [.ref q_o, .ref q_t, .int o_reached])), (q_o, .inl (cc.2.1, l_o, .inl g_o)), (q_t, .inl (cc.2.1, 182, .inl g_t))] : va_W) ++ px_cp cc ho cm np ns hm pa sa mm pp ss) s.heap.size = A at hD ⊢
  have hA : ∀ q : Nat, s.heap.size ≤ q → A q := fun q h => by rw [← hAe]; exact Or.inr h
  have hS : va_S A s.heap s.heap [] := va_S.rf
  have hP : va_P (dC, dI) vwCl (([(ho, .inr (1, [.ref q_o, .ref q_t, .int o_reached])), (q_o, .inl (cc.2.1, l_o, .inl g_o)), (q_t, .inl (cc.2.1, 182, .inl g_t))] : va_W) ++ px_cp cc ho cm np ns hm pa sa mm pp ss) s.heap := hP
  have hl := lv_entry ([.ref (hm a0x), .int a1x]) (n := 4) (Nat.le_of_ble_eq_true rfl)
  rw [lg_entry_eq]
  generalize (lg_sl ([.ref (hm a0x), .int a1x]) ++ List.replicate (4 - (lg_sl ([.ref (hm a0x), .int a1x])).length) Slot.unset).toArray = ls at hl ⊢
  have hl : lv_has ls 4 [(0, .ref (hm a0x)), (1, .int a1x)] := hl
  generalize hQ : MQ _ _ _ _ _ _ _ = Q
  have S55 : ∀ (x1 : Int32) (x2 : Int32) (x3 : Int32) (q_o : Nat) (l_o : Nat) (o_reached : Int32) (g_o : Nat → Int32) (g_t : Nat → Int32) (mm : Nat → px_MR) (H : Heap) (locs : List Loc) (ls : Array Slot), va_P (dC, dI) vwCl (([(ho, .inr (1, [.ref q_o, .ref q_t, .int o_reached])), (q_o, .inl (cc.2.1, l_o, .inl g_o)), (q_t, .inl (cc.2.1, 182, .inl g_t))] : va_W) ++ px_cp cc ho cm np ns hm pa sa mm pp ss) H → va_D A (([(ho, .inr (1, [.ref q_o, .ref q_t, .int o_reached])), (q_o, .inl (cc.2.1, l_o, .inl g_o)), (q_t, .inl (cc.2.1, 182, .inl g_t))] : va_W) ++ px_cp cc ho cm np ns hm pa sa mm pp ss) → va_S A s.heap H locs → lv_has ls 4 [(0, .ref (hm a0x)), (1, .int x1), (2, .int x2), (3, .int x3)] → w276_L55 a0x cm np ns pa sa pp ss post x1 x2 x3 q_o l_o o_reached g_o g_t mm → W p l e (headSpec px_s276 ({ frames := 0, cells := 0, slots := 0, locals := 0 })).room s m ([.ref (hm a0x), .int a1x]).toArray below meth c H locs 0 0 Q (F0 m 55 ls []) := by
    intro x1 x2 x3 q_o l_o o_reached g_o g_t mm H locs ls hP hD hS hl hw
    unfold w276_L55 at hw
    refine lv_iload_n hx hb px_d276_55 rfl (lv_at hl 2 rfl) ?_
    obtain ⟨hz9, hw⟩ := hw
    rw [← hQ]
    exact W.zret (v := x2) hx hb hr hz9 (fun t ht hW => ⟨⟨x2, (q_o, l_o, o_reached, g_o, g_t, mm), rfl, hw, by rw [ht]; exact hP, va_K.moved hW.alike hK, hD⟩, hS.F ht⟩) hS.2.2 px_d276_56
  have S4 : ∀ (k4 : Nat) (x1 : Int32) (x2 : Int32) (x3 : Int32) (q_o : Nat) (l_o : Nat) (o_reached : Int32) (g_o : Nat → Int32) (g_t : Nat → Int32) (mm : Nat → px_MR) (H : Heap) (locs : List Loc) (ls : Array Slot), va_P (dC, dI) vwCl (([(ho, .inr (1, [.ref q_o, .ref q_t, .int o_reached])), (q_o, .inl (cc.2.1, l_o, .inl g_o)), (q_t, .inl (cc.2.1, 182, .inl g_t))] : va_W) ++ px_cp cc ho cm np ns hm pa sa mm pp ss) H → va_D A (([(ho, .inr (1, [.ref q_o, .ref q_t, .int o_reached])), (q_o, .inl (cc.2.1, l_o, .inl g_o)), (q_t, .inl (cc.2.1, 182, .inl g_t))] : va_W) ++ px_cp cc ho cm np ns hm pa sa mm pp ss) → va_S A s.heap H locs → lv_has ls 4 [(0, .ref (hm a0x)), (1, .int x1), (2, .int x2), (3, .int x3)] → w276_L4 a0x cm np ns pa sa pp ss post k4 x1 x2 x3 q_o l_o o_reached g_o g_t mm → W p l e (headSpec px_s276 ({ frames := 0, cells := 0, slots := 0, locals := 0 })).room s m ([.ref (hm a0x), .int a1x]).toArray below meth c H locs 0 0 Q (F0 m 4 ls []) := by
    intro k4
    induction k4 with
    | zero => intro x1 x2 x3 q_o l_o o_reached g_o g_t mm H locs ls hP hD hS hl hw; exact False.elim hw
    | succ k4 ih4 =>
      have S48 : ∀ (x1 : Int32) (x2 : Int32) (x3 : Int32) (y0 : Int32) (q_o : Nat) (l_o : Nat) (o_reached : Int32) (g_o : Nat → Int32) (g_t : Nat → Int32) (mm : Nat → px_MR) (H : Heap) (locs : List Loc) (ls : Array Slot), va_P (dC, dI) vwCl (([(ho, .inr (1, [.ref q_o, .ref q_t, .int o_reached])), (q_o, .inl (cc.2.1, l_o, .inl g_o)), (q_t, .inl (cc.2.1, 182, .inl g_t))] : va_W) ++ px_cp cc ho cm np ns hm pa sa mm pp ss) H → va_D A (([(ho, .inr (1, [.ref q_o, .ref q_t, .int o_reached])), (q_o, .inl (cc.2.1, l_o, .inl g_o)), (q_t, .inl (cc.2.1, 182, .inl g_t))] : va_W) ++ px_cp cc ho cm np ns hm pa sa mm pp ss) → va_S A s.heap H locs → lv_has ls 4 [(0, .ref (hm a0x)), (1, .int x1), (2, .int x2), (3, .int x3)] → w276_L48 (w276_L4 a0x cm np ns pa sa pp ss post k4) a0x cm np ns pa sa pp ss post x1 x2 x3 y0 q_o l_o o_reached g_o g_t mm → W p l e (headSpec px_s276 ({ frames := 0, cells := 0, slots := 0, locals := 0 })).room s m ([.ref (hm a0x), .int a1x]).toArray below meth c H locs 0 0 Q (F0 m 48 ls [.int y0]) := by
        intro x1 x2 x3 y0 q_o l_o o_reached g_o g_t mm H locs ls hP hD hS hl hw
        unfold w276_L48 at hw
        refine lv_istore_n (lv' := [(2, .int y0), (0, .ref (hm a0x)), (1, .int x1), (3, .int x3)]) hx hb px_d276_48 rfl hl (by decide) rfl (fun ls hl => ?_)
        obtain ⟨z1, ez1⟩ : ∃ y : Int32, y = x3 + 1 := ⟨_, rfl⟩
        have hw := hw z1 ez1
        refine lv_iinc (v := z1) (lv' := [(3, .int z1), (2, .int y0), (0, .ref (hm a0x)), (1, .int x1)]) hx hb px_d276_49 hl (k := 3) rfl (by rw [ez1]; rfl) (by decide) rfl (fun ls hl => ?_)
        refine lv_goto (tgt := 4) hx hb px_d276_52 (by decide) ?_
        exact ih4 x1 y0 z1 q_o l_o o_reached g_o g_t mm H locs ls hP hD hS (lv_sub hl [2, 3, 1, 0] rfl) hw
      have S43 : ∀ (x1 : Int32) (x2 : Int32) (x3 : Int32) (q_o : Nat) (l_o : Nat) (o_reached : Int32) (g_o : Nat → Int32) (g_t : Nat → Int32) (mm : Nat → px_MR) (H : Heap) (locs : List Loc) (ls : Array Slot), va_P (dC, dI) vwCl (([(ho, .inr (1, [.ref q_o, .ref q_t, .int o_reached])), (q_o, .inl (cc.2.1, l_o, .inl g_o)), (q_t, .inl (cc.2.1, 182, .inl g_t))] : va_W) ++ px_cp cc ho cm np ns hm pa sa mm pp ss) H → va_D A (([(ho, .inr (1, [.ref q_o, .ref q_t, .int o_reached])), (q_o, .inl (cc.2.1, l_o, .inl g_o)), (q_t, .inl (cc.2.1, 182, .inl g_t))] : va_W) ++ px_cp cc ho cm np ns hm pa sa mm pp ss) → va_S A s.heap H locs → lv_has ls 4 [(0, .ref (hm a0x)), (1, .int x1), (2, .int x2), (3, .int x3)] → w276_L43 (w276_L4 a0x cm np ns pa sa pp ss post k4) a0x cm np ns pa sa pp ss post x1 x2 x3 q_o l_o o_reached g_o g_t mm → W p l e (headSpec px_s276 ({ frames := 0, cells := 0, slots := 0, locals := 0 })).room s m ([.ref (hm a0x), .int a1x]).toArray below meth c H locs 0 0 Q (F0 m 43 ls []) := by
        intro x1 x2 x3 q_o l_o o_reached g_o g_t mm H locs ls hP hD hS hl hw
        unfold w276_L43 at hw
        refine lv_iconst (v := 1) hx hb px_d276_43 (by decide) ?_
        refine lv_goto (tgt := 48) hx hb px_d276_44 (by decide) ?_
        exact S48 x1 x2 x3 1 q_o l_o o_reached g_o g_t mm H locs ls hP hD hS (lv_sub hl [0, 1, 2, 3] rfl) hw
      intro x1 x2 x3 q_o l_o o_reached g_o g_t mm H locs ls hP hD hS hl hw
      unfold w276_L4 at hw
      refine lv_iload_n hx hb px_d276_4 rfl (lv_at hl 3 rfl) ?_
      refine lv_aload_n hx hb px_d276_5 rfl (lv_at hl 0 rfl) ?_
      obtain ⟨hp6, hw⟩ := hw
      refine va_get (D := (dC, dI)) (ci := 10) (v := .int ((mm a0x).2.1 13)) (C := "MatroidDesk$Matroid") (T := px_T10) (N := 15) hx hb htw px_in10 hown hK hP (3 + (13 * a0x + 0)) (px_cg0 rfl hp6) rfl 13 (by decide) (htw _ px_w1264) (fun _ h9 => h9) rfl px_d276_6 ?_
      refine lv_icmp_ge (tgt := 55) hx hb px_d276_9 (by decide) (fun c9 => ?_) (fun c9 => ?_)
      · have hw := hw.1 c9
        exact S55 x1 x2 x3 q_o l_o o_reached g_o g_t mm H locs ls hP hD hS (lv_sub hl [0, 1, 2, 3] rfl) hw
      · have hw := hw.2 c9
        refine lv_iload_n hx hb px_d276_12 rfl (lv_at hl 2 rfl) ?_
        refine lv_if_eq (tgt := 55) hx hb px_d276_13 (by decide) (fun c13 => ?_) (fun c13 => ?_)
        · have hw := hw.1 c13
          exact S55 x1 x2 x3 q_o l_o o_reached g_o g_t mm H locs ls hP hD hS (lv_sub hl [0, 1, 2, 3] rfl) hw
        · have hw := hw.2 c13
          refine lv_iload_n hx hb px_d276_16 rfl (lv_at hl 1 rfl) ?_
          refine lv_iload_n hx hb px_d276_17 rfl (lv_at hl 3 rfl) ?_
          refine lv_ishr hx hb px_d276_18 ?_
          refine lv_iconst (v := 1) hx hb px_d276_19 (by decide) ?_
          refine lv_iand hx hb px_d276_20 ?_
          refine lv_if_ne (tgt := 43) hx hb px_d276_21 (by decide) (fun c21 => ?_) (fun c21 => ?_)
          · have hw := hw.1 c21
            exact S43 x1 x2 x3 q_o l_o o_reached g_o g_t mm H locs ls hP hD hS (lv_sub hl [0, 1, 2, 3] rfl) hw
          · have hw := hw.2 c21
            refine lv_aload_n hx hb px_d276_24 rfl (lv_at hl 0 rfl) ?_
            obtain ⟨hp25, hw⟩ := hw
            refine va_get (D := (dC, dI)) (ci := 10) (v := .ref ((mm a0x).1 7)) (C := "MatroidDesk$Matroid") (T := px_T10) (N := 15) hx hb htw px_in10 hown hK hP (3 + (13 * a0x + 0)) (px_cg0 rfl hp25) rfl 7 (by decide) (htw _ px_w1006) (fun _ h9 => h9) rfl px_d276_25 ?_
            refine lv_iload_n hx hb px_d276_28 rfl (lv_at hl 1 rfl) ?_
            refine lv_iconst (v := 1) hx hb px_d276_29 (by decide) ?_
            refine lv_iload_n hx hb px_d276_30 rfl (lv_at hl 3 rfl) ?_
            refine lv_ishl hx hb px_d276_31 ?_
            refine lv_ior hx hb px_d276_32 ?_
            obtain ⟨hp33, hw⟩ := hw
            obtain ⟨hi33, hw⟩ := hw
            refine va_bald hx hb hK hP (3 + (13 * a0x + 7)) 1 (px_cg7 rfl hp33) rfl hi33 px_d276_33 ?_
            refine lv_aload_n hx hb px_d276_34 rfl (lv_at hl 0 rfl) ?_
            obtain ⟨hp35, hw⟩ := hw
            refine va_get (D := (dC, dI)) (ci := 10) (v := .ref ((mm a0x).1 7)) (C := "MatroidDesk$Matroid") (T := px_T10) (N := 15) hx hb htw px_in10 hown hK hP (3 + (13 * a0x + 0)) (px_cg0 rfl hp35) rfl 7 (by decide) (htw _ px_w1006) (fun _ h9 => h9) rfl px_d276_35 ?_
            refine lv_iload_n hx hb px_d276_38 rfl (lv_at hl 1 rfl) ?_
            obtain ⟨hp39, hw⟩ := hw
            obtain ⟨hi39, hw⟩ := hw
            refine va_bald hx hb hK hP (3 + (13 * a0x + 7)) 1 (px_cg7 rfl hp39) rfl hi39 px_d276_39 ?_
            refine lv_icmp_le (tgt := 47) hx hb px_d276_40 (by decide) (fun c40 => ?_) (fun c40 => ?_)
            · have hw := hw.1 c40
              refine lv_iconst (v := 0) hx hb px_d276_47 (by decide) ?_
              exact S48 x1 x2 x3 0 q_o l_o o_reached g_o g_t mm H locs ls hP hD hS (lv_sub hl [0, 1, 2, 3] rfl) hw
            · have hw := hw.2 c40
              exact S43 x1 x2 x3 q_o l_o o_reached g_o g_t mm H locs ls hP hD hS (lv_sub hl [0, 1, 2, 3] rfl) hw
  unfold w276_wp at hw
  have hS0 := hS
  obtain ⟨H, hH9⟩ : ∃ z, z = s.heap := ⟨_, rfl⟩
  have hP : va_P (dC, dI) vwCl (([(ho, .inr (1, [.ref q_o, .ref q_t, .int o_reached])), (q_o, .inl (cc.2.1, l_o, .inl g_o)), (q_t, .inl (cc.2.1, 182, .inl g_t))] : va_W) ++ px_cp cc ho cm np ns hm pa sa mm pp ss) H := by rw [hH9]; exact hP
  obtain ⟨locs, hlo9⟩ : ∃ z : List Loc, z = [] := ⟨_, rfl⟩
  have hS : va_S A s.heap H locs := by rw [hH9, hlo9]; exact hS
  suffices hG : W p l e (headSpec px_s276 ({ frames := 0, cells := 0, slots := 0, locals := 0 })).room s m ([.ref (hm a0x), .int a1x]).toArray below meth c H locs 0 0 Q (F0 m 0 ls []) by rw [hH9, hlo9] at hG; exact hG
  refine lv_iconst (v := 1) hx hb px_d276_0 (by decide) ?_
  refine lv_istore_n (lv' := [(2, .int 1), (0, .ref (hm a0x)), (1, .int a1x)]) hx hb px_d276_1 rfl hl (by decide) rfl (fun ls hl => ?_)
  refine lv_iconst (v := 0) hx hb px_d276_2 (by decide) ?_
  refine lv_istore_n (lv' := [(3, .int 0), (2, .int 1), (0, .ref (hm a0x)), (1, .int a1x)]) hx hb px_d276_3 rfl hl (by decide) rfl (fun ls hl => ?_)
  obtain ⟨k9, hw⟩ := hw
  exact S4 k9 a1x 1 0 q_o l_o o_reached g_o g_t mm H locs ls hP hD hS (lv_sub hl [2, 3, 1, 0] rfl) hw

/-! MatroidDesk$Matroid.belongs(II)Z -/
def w274_L85 (a0x : Nat) (cm : Nat) (np : Nat) (ns : Nat) (pa : Nat → Nat) (sa : Nat → Nat) (pp : Nat → px_PR) (ss : Nat → px_SR) (post : Int32 → Nat → Nat → Int32 → (Nat → Int32) → (Nat → Int32) → (Nat → px_MR) → Prop) (x1 : Int32) (x2 : Int32) (x3 : Int32) (y0 : Int32) (q_o : Nat) (l_o : Nat) (o_reached : Int32) (g_o : Nat → Int32) (g_t : Nat → Int32) (mm : Nat → px_MR) : Prop := narrow .boolean (.int y0) = .int y0 ∧ post y0 q_o l_o o_reached g_o g_t mm
def w274_L84 (a0x : Nat) (cm : Nat) (np : Nat) (ns : Nat) (pa : Nat → Nat) (sa : Nat → Nat) (pp : Nat → px_PR) (ss : Nat → px_SR) (post : Int32 → Nat → Nat → Int32 → (Nat → Int32) → (Nat → Int32) → (Nat → px_MR) → Prop) (x1 : Int32) (x2 : Int32) (x3 : Int32) (q_o : Nat) (l_o : Nat) (o_reached : Int32) (g_o : Nat → Int32) (g_t : Nat → Int32) (mm : Nat → px_MR) : Prop := w274_L85 a0x cm np ns pa sa pp ss post x1 x2 x3 0 q_o l_o o_reached g_o g_t mm
def w274_L50 (a0x : Nat) (cm : Nat) (np : Nat) (ns : Nat) (pa : Nat → Nat) (sa : Nat → Nat) (pp : Nat → px_PR) (ss : Nat → px_SR) (post : Int32 → Nat → Nat → Int32 → (Nat → Int32) → (Nat → Int32) → (Nat → px_MR) → Prop) (x1 : Int32) (x2 : Int32) (x3 : Int32) (y0 : Int32) (q_o : Nat) (l_o : Nat) (o_reached : Int32) (g_o : Nat → Int32) (g_t : Nat → Int32) (mm : Nat → px_MR) : Prop := narrow .boolean (.int y0) = .int y0 ∧ post y0 q_o l_o o_reached g_o g_t mm
def w274_wp (a0x : Nat) (cm : Nat) (np : Nat) (ns : Nat) (pa : Nat → Nat) (sa : Nat → Nat) (pp : Nat → px_PR) (ss : Nat → px_SR) (post : Int32 → Nat → Nat → Int32 → (Nat → Int32) → (Nat → Int32) → (Nat → px_MR) → Prop) (a1x : Int32) (a2x : Int32) (q_o : Nat) (l_o : Nat) (o_reached : Int32) (g_o : Nat → Int32) (g_t : Nat → Int32) (mm : Nat → px_MR) : Prop := a0x < cm ∧ (w249_wp a0x cm np ns pa sa pp ss (fun r1 v1 v2 v3 v4 v5 v6 => ∀ z8 : Int32, z8 = r1 ^^^ a2x → (a1x = 0 → a0x < cm ∧ (a0x < cm ∧ (vp_in a2x ((v6 a0x).2.2.1 6) ∧ (((((v6 a0x).2.2.2.1 6) (Int32.toNatClampNeg a2x)) = 0 → w274_L50 a0x cm np ns pa sa pp ss post a1x a2x z8 0 v1 v2 v3 v4 v5 v6) ∧ (¬ (((v6 a0x).2.2.2.1 6) (Int32.toNatClampNeg a2x)) = 0 → w274_L50 a0x cm np ns pa sa pp ss post a1x a2x z8 1 v1 v2 v3 v4 v5 v6))))) ∧ (a1x = 1 → a0x < cm ∧ (w275_wp a0x cm np ns pa sa pp ss (fun r53 v9 v10 v11 v12 v13 v14 => narrow .boolean (.int r53) = .int r53 ∧ post r53 v9 v10 v11 v12 v13 v14) a2x v1 v2 v3 v4 v5 v6)) ∧ (a1x = 2 → a0x < cm ∧ (a0x < cm ∧ (vp_in z8 ((v6 a0x).2.2.1 7) ∧ (a0x < cm ∧ ((¬ (((v6 a0x).2.2.2.1 7) (Int32.toNatClampNeg z8)) = (((v6 a0x).2.1 14) - 1) → w274_L84 a0x cm np ns pa sa pp ss post a1x a2x z8 v1 v2 v3 v4 v5 v6) ∧ ((((v6 a0x).2.2.2.1 7) (Int32.toNatClampNeg z8)) = (((v6 a0x).2.1 14) - 1) → a0x < cm ∧ (w276_wp a0x cm np ns pa sa pp ss (fun r74 v16 v17 v18 v19 v20 v21 => (r74 = 0 → w274_L84 a0x cm np ns pa sa pp ss post a1x a2x z8 v16 v17 v18 v19 v20 v21) ∧ (¬ r74 = 0 → w274_L85 a0x cm np ns pa sa pp ss post a1x a2x z8 1 v16 v17 v18 v19 v20 v21)) z8 v1 v2 v3 v4 v5 v6))))))) ∧ (¬ a1x = 0 → ¬ a1x = 1 → ¬ a1x = 2 → a0x < cm ∧ (w276_wp a0x cm np ns pa sa pp ss (fun r88 v23 v24 v25 v26 v27 v28 => narrow .boolean (.int r88) = .int r88 ∧ post r88 v23 v24 v25 v26 v27 v28) a2x v1 v2 v3 v4 v5 v6))) q_o l_o o_reached g_o g_t mm)
set_option maxHeartbeats 8000000 in
set_option maxRecDepth 100000 in
theorem w274_met (l : Launch) (dC : Nat → ClassId) (dI : Nat → Nat → Nat) (sz : Nat) (ho : Nat) (q_t : Nat) (a0x : Nat) (cc : px_CC) (cm : Nat) (np : Nat) (ns : Nat) (hm : Nat → Nat) (pa : Nat → Nat) (sa : Nat → Nat) (pp : Nat → px_PR) (ss : Nat → px_SR) (a1x : Int32) (a2x : Int32) (q_o : Nat) (l_o : Nat) (o_reached : Int32) (g_o : Nat → Int32) (g_t : Nat → Int32) (mm : Nat → px_MR) (post : Int32 → Nat → Nat → Int32 → (Nat → Int32) → (Nat → Int32) → (Nat → px_MR) → Prop) (hw : w274_wp a0x cm np ns pa sa pp ss post a1x a2x q_o l_o o_reached g_o g_t mm) : Met l px_y274 px_s274 ({ frames := 2, cells := 0, slots := 0, locals := 44 }) (va_Pc [.ref (hm a0x), .int a1x, .int a2x] (fun U => U.heap.size = sz ∧ va_P (dC, dI) vwCl (([(ho, .inr (1, [.ref q_o, .ref q_t, .int o_reached])), (q_o, .inl (cc.2.1, l_o, .inl g_o)), (q_t, .inl (cc.2.1, 182, .inl g_t))] : va_W) ++ px_cp cc ho cm np ns hm pa sa mm pp ss) U.heap ∧ va_K (dC, dI) vwCl [(cc.2.1, .int), (cc.2.2.2.1, .byte), (cc.2.2.2.2, .long), (cc.1, .object "MatroidDesk$Part"), (cc.2.2.1, (.array .int))] U ∧ va_D (fun _ => True) (([(ho, .inr (1, [.ref q_o, .ref q_t, .int o_reached])), (q_o, .inl (cc.2.1, l_o, .inl g_o)), (q_t, .inl (cc.2.1, 182, .inl g_t))] : va_W) ++ px_cp cc ho cm np ns hm pa sa mm pp ss) ∧ px_N U)) (va_Qi (fun (r : Int32) (u : Nat × Nat × Int32 × (Nat → Int32) × (Nat → Int32) × (Nat → px_MR)) => post r u.1 u.2.1 u.2.2.1 u.2.2.2.1 u.2.2.2.2.1 u.2.2.2.2.2) (fun (u : Nat × Nat × Int32 × (Nat → Int32) × (Nat → Int32) × (Nat → px_MR)) (t : State) => va_P (dC, dI) vwCl (([(ho, .inr (1, [.ref u.1, .ref q_t, .int u.2.2.1])), (u.1, .inl (cc.2.1, u.2.1, .inl u.2.2.2.1)), (q_t, .inl (cc.2.1, 182, .inl u.2.2.2.2.1))] : va_W) ++ px_cp cc ho cm np ns hm pa sa u.2.2.2.2.2 pp ss) t.heap ∧ va_K (dC, dI) vwCl [(cc.2.1, .int), (cc.2.2.2.1, .byte), (cc.2.2.2.2, .long), (cc.1, .object "MatroidDesk$Part"), (cc.2.2.1, (.array .int))] t ∧ va_D (va_A (([(ho, .inr (1, [.ref q_o, .ref q_t, .int o_reached])), (q_o, .inl (cc.2.1, l_o, .inl g_o)), (q_t, .inl (cc.2.1, 182, .inl g_t))] : va_W) ++ px_cp cc ho cm np ns hm pa sa mm pp ss) sz) (([(ho, .inr (1, [.ref u.1, .ref q_t, .int u.2.2.1])), (u.1, .inl (cc.2.1, u.2.1, .inl u.2.2.2.1)), (q_t, .inl (cc.2.1, 182, .inl u.2.2.2.2.1))] : va_W) ++ px_cp cc ho cm np ns hm pa sa u.2.2.2.2.2 pp ss)) (va_A (([(ho, .inr (1, [.ref q_o, .ref q_t, .int o_reached])), (q_o, .inl (cc.2.1, l_o, .inl g_o)), (q_t, .inl (cc.2.1, 182, .inl g_t))] : va_W) ++ px_cp cc ho cm np ns hm pa sa mm pp ss) sz)) 0 0 (va_A (([(ho, .inr (1, [.ref q_o, .ref q_t, .int o_reached])), (q_o, .inl (cc.2.1, l_o, .inl g_o)), (q_t, .inl (cc.2.1, 182, .inl g_t))] : va_W) ++ px_cp cc ho cm np ns hm pa sa mm pp ss) sz) := by
  refine Met.ofW (cc := prog_3_method_26_code) (maxL := 4) (ret := (some .boolean)) (by decide) rfl ?_
  intro p e s m args below meth c s₁ B hml hv
  obtain ⟨rfl, hsz, hP, hK, hD0, hN⟩ := hv
  have hx := B.exec
  have hb := B.bytes
  have hr := B.returns
  have htw : ∀ w ∈ px_all, w.before _ s = true := fun w h => atoms_spec (ws := px_s274) B.pre w (List.mem_cons_of_mem _ h)
  have hown : s.vm.findClass "MatroidDesk$Matroid" = some m.cls := findClass_of_methodNamed B.named
  have hlocks := B.notSynchronized
  subst hsz
  have hD := hD0.self (sz := s.heap.size)
  generalize hAe : va_A (([(ho, .inr (1, [.ref q_o, .ref q_t, .int o_reached])), (q_o, .inl (cc.2.1, l_o, .inl g_o)), (q_t, .inl (cc.2.1, 182, .inl g_t))] : va_W) ++ px_cp cc ho cm np ns hm pa sa mm pp ss) s.heap.size = A at hD ⊢
  have hA : ∀ q : Nat, s.heap.size ≤ q → A q := fun q h => by rw [← hAe]; exact Or.inr h
  have hS : va_S A s.heap s.heap [] := va_S.rf
  have hP : va_P (dC, dI) vwCl (([(ho, .inr (1, [.ref q_o, .ref q_t, .int o_reached])), (q_o, .inl (cc.2.1, l_o, .inl g_o)), (q_t, .inl (cc.2.1, 182, .inl g_t))] : va_W) ++ px_cp cc ho cm np ns hm pa sa mm pp ss) s.heap := hP
  have hl := lv_entry ([.ref (hm a0x), .int a1x, .int a2x]) (n := 4) (Nat.le_of_ble_eq_true rfl)
  rw [lg_entry_eq]
  generalize (lg_sl ([.ref (hm a0x), .int a1x, .int a2x]) ++ List.replicate (4 - (lg_sl ([.ref (hm a0x), .int a1x, .int a2x])).length) Slot.unset).toArray = ls at hl ⊢
  have hl : lv_has ls 4 [(0, .ref (hm a0x)), (1, .int a1x), (2, .int a2x)] := hl
  generalize hQ : MQ _ _ _ _ _ _ _ = Q
  have S85 : ∀ (x1 : Int32) (x2 : Int32) (x3 : Int32) (y0 : Int32) (q_o : Nat) (l_o : Nat) (o_reached : Int32) (g_o : Nat → Int32) (g_t : Nat → Int32) (mm : Nat → px_MR) (H : Heap) (locs : List Loc) (ls : Array Slot), va_P (dC, dI) vwCl (([(ho, .inr (1, [.ref q_o, .ref q_t, .int o_reached])), (q_o, .inl (cc.2.1, l_o, .inl g_o)), (q_t, .inl (cc.2.1, 182, .inl g_t))] : va_W) ++ px_cp cc ho cm np ns hm pa sa mm pp ss) H → va_D A (([(ho, .inr (1, [.ref q_o, .ref q_t, .int o_reached])), (q_o, .inl (cc.2.1, l_o, .inl g_o)), (q_t, .inl (cc.2.1, 182, .inl g_t))] : va_W) ++ px_cp cc ho cm np ns hm pa sa mm pp ss) → va_S A s.heap H locs → lv_has ls 4 [(0, .ref (hm a0x)), (1, .int x1), (2, .int x2), (3, .int x3)] → w274_L85 a0x cm np ns pa sa pp ss post x1 x2 x3 y0 q_o l_o o_reached g_o g_t mm → W p l e (headSpec px_s274 ({ frames := 2, cells := 0, slots := 0, locals := 44 })).room s m ([.ref (hm a0x), .int a1x, .int a2x]).toArray below meth c H locs 0 0 Q (F0 m 85 ls [.int y0]) := by
    intro x1 x2 x3 y0 q_o l_o o_reached g_o g_t mm H locs ls hP hD hS hl hw
    unfold w274_L85 at hw
    obtain ⟨hz9, hw⟩ := hw
    rw [← hQ]
    exact W.zret (v := y0) hx hb hr hz9 (fun t ht hW => ⟨⟨y0, (q_o, l_o, o_reached, g_o, g_t, mm), rfl, hw, by rw [ht]; exact hP, va_K.moved hW.alike hK, hD⟩, hS.F ht⟩) hS.2.2 px_d274_85
  have S84 : ∀ (x1 : Int32) (x2 : Int32) (x3 : Int32) (q_o : Nat) (l_o : Nat) (o_reached : Int32) (g_o : Nat → Int32) (g_t : Nat → Int32) (mm : Nat → px_MR) (H : Heap) (locs : List Loc) (ls : Array Slot), va_P (dC, dI) vwCl (([(ho, .inr (1, [.ref q_o, .ref q_t, .int o_reached])), (q_o, .inl (cc.2.1, l_o, .inl g_o)), (q_t, .inl (cc.2.1, 182, .inl g_t))] : va_W) ++ px_cp cc ho cm np ns hm pa sa mm pp ss) H → va_D A (([(ho, .inr (1, [.ref q_o, .ref q_t, .int o_reached])), (q_o, .inl (cc.2.1, l_o, .inl g_o)), (q_t, .inl (cc.2.1, 182, .inl g_t))] : va_W) ++ px_cp cc ho cm np ns hm pa sa mm pp ss) → va_S A s.heap H locs → lv_has ls 4 [(0, .ref (hm a0x)), (1, .int x1), (2, .int x2), (3, .int x3)] → w274_L84 a0x cm np ns pa sa pp ss post x1 x2 x3 q_o l_o o_reached g_o g_t mm → W p l e (headSpec px_s274 ({ frames := 2, cells := 0, slots := 0, locals := 44 })).room s m ([.ref (hm a0x), .int a1x, .int a2x]).toArray below meth c H locs 0 0 Q (F0 m 84 ls []) := by
    intro x1 x2 x3 q_o l_o o_reached g_o g_t mm H locs ls hP hD hS hl hw
    unfold w274_L84 at hw
    refine lv_iconst (v := 0) hx hb px_d274_84 (by decide) ?_
    exact S85 x1 x2 x3 0 q_o l_o o_reached g_o g_t mm H locs ls hP hD hS (lv_sub hl [0, 1, 2, 3] rfl) hw
  have S50 : ∀ (x1 : Int32) (x2 : Int32) (x3 : Int32) (y0 : Int32) (q_o : Nat) (l_o : Nat) (o_reached : Int32) (g_o : Nat → Int32) (g_t : Nat → Int32) (mm : Nat → px_MR) (H : Heap) (locs : List Loc) (ls : Array Slot), va_P (dC, dI) vwCl (([(ho, .inr (1, [.ref q_o, .ref q_t, .int o_reached])), (q_o, .inl (cc.2.1, l_o, .inl g_o)), (q_t, .inl (cc.2.1, 182, .inl g_t))] : va_W) ++ px_cp cc ho cm np ns hm pa sa mm pp ss) H → va_D A (([(ho, .inr (1, [.ref q_o, .ref q_t, .int o_reached])), (q_o, .inl (cc.2.1, l_o, .inl g_o)), (q_t, .inl (cc.2.1, 182, .inl g_t))] : va_W) ++ px_cp cc ho cm np ns hm pa sa mm pp ss) → va_S A s.heap H locs → lv_has ls 4 [(0, .ref (hm a0x)), (1, .int x1), (2, .int x2), (3, .int x3)] → w274_L50 a0x cm np ns pa sa pp ss post x1 x2 x3 y0 q_o l_o o_reached g_o g_t mm → W p l e (headSpec px_s274 ({ frames := 2, cells := 0, slots := 0, locals := 44 })).room s m ([.ref (hm a0x), .int a1x, .int a2x]).toArray below meth c H locs 0 0 Q (F0 m 50 ls [.int y0]) := by
    intro x1 x2 x3 y0 q_o l_o o_reached g_o g_t mm H locs ls hP hD hS hl hw
    unfold w274_L50 at hw
    obtain ⟨hz9, hw⟩ := hw
    rw [← hQ]
    exact W.zret (v := y0) hx hb hr hz9 (fun t ht hW => ⟨⟨y0, (q_o, l_o, o_reached, g_o, g_t, mm), rfl, hw, by rw [ht]; exact hP, va_K.moved hW.alike hK, hD⟩, hS.F ht⟩) hS.2.2 px_d274_50
  unfold w274_wp at hw
  have hS0 := hS
  obtain ⟨H, hH9⟩ : ∃ z, z = s.heap := ⟨_, rfl⟩
  have hP : va_P (dC, dI) vwCl (([(ho, .inr (1, [.ref q_o, .ref q_t, .int o_reached])), (q_o, .inl (cc.2.1, l_o, .inl g_o)), (q_t, .inl (cc.2.1, 182, .inl g_t))] : va_W) ++ px_cp cc ho cm np ns hm pa sa mm pp ss) H := by rw [hH9]; exact hP
  obtain ⟨locs, hlo9⟩ : ∃ z : List Loc, z = [] := ⟨_, rfl⟩
  have hS : va_S A s.heap H locs := by rw [hH9, hlo9]; exact hS
  suffices hG : W p l e (headSpec px_s274 ({ frames := 2, cells := 0, slots := 0, locals := 44 })).room s m ([.ref (hm a0x), .int a1x, .int a2x]).toArray below meth c H locs 0 0 Q (F0 m 0 ls []) by rw [hH9, hlo9] at hG; exact hG
  refine lv_aload_n hx hb px_d274_0 rfl (lv_at hl 0 rfl) ?_
  obtain ⟨hp1, hw⟩ := hw
  have hPc := hP.part (cx := [(ho, .inr (1, [.ref q_o, .ref q_t, .int o_reached])), (q_o, .inl (cc.2.1, l_o, .inl g_o)), (q_t, .inl (cc.2.1, 182, .inl g_t))]) [0, 1, 2] rfl
  have hDc := hD.part (cx := [(ho, .inr (1, [.ref q_o, .ref q_t, .int o_reached])), (q_o, .inl (cc.2.1, l_o, .inl g_o)), (q_t, .inl (cc.2.1, 182, .inl g_t))]) [0, 1, 2] (by decide) rfl
  have hFc := va_freeP (cx := [(ho, .inr (1, [.ref q_o, .ref q_t, .int o_reached])), (q_o, .inl (cc.2.1, l_o, .inl g_o)), (q_t, .inl (cc.2.1, 182, .inl g_t))]) hD hS hA [0, 1, 2] rfl
  have hKc := hK.sub (tys' := [(cc.2.1, .int), (cc.2.2.2.1, .byte), (cc.2.2.2.2, .long), (cc.1, .object "MatroidDesk$Part"), (cc.2.2.1, (.array .int))]) [0, 1, 2, 3, 4] rfl
  refine va_calli (va_runV (As := []) (rest := []) ⟨hx, hb, hml, hown, htw⟩ (w249_met l dC dI H.size ho q_t a0x cc cm np ns hm pa sa pp ss q_o l_o o_reached g_o g_t mm _ hw) (cwV 0 htw (px_gv px_w1265 px_w1287 px_w1288 px_w154 px_g249) rfl rfl rfl (by decide +kernel) ⟨Nat.le_of_ble_eq_true rfl, Nat.le_of_ble_eq_true rfl⟩) ⟨fun a U g mk q => by obtain ⟨q0, q1, qP, qK, qD, qN⟩ := q; exact ⟨q0, q1, qP, va_K.moved (u := U) (U := U.calling g mk a) (Vm.Alike.refl U.vm) qK, qD, qN.same rfl⟩, va_recv hK hP (ci := 10) (q0 := (3 + (13 * a0x + 0))) rfl (px_cg0 rfl hp1), fun U hU hW => ⟨rfl, by rw [hU], by rw [hU]; exact hPc, va_K.moved hW.alike hKc, hDc.weaken (fun _ _ _ _ => trivial), hN.warm hW⟩⟩ rfl rfl hl.1 rfl (lv_room (Nat.le_of_ble_eq_true rfl)) px_d274_1 ⟨(Nat.le_of_ble_eq_true rfl), (Nat.le_of_ble_eq_true rfl)⟩) hS (fun q _ h => hFc q h) hFc (fun r1 u t H1 locs ht hvm hw hB hz1 hk1 hS => ?_)
  obtain ⟨v1, v2, v3, v4, v5, v6⟩ := u
  obtain ⟨hP1, hK1, hD1⟩ := hB
  rw [ht] at hP1
  obtain ⟨hP, hD⟩ := va_joinP (wr := []) (rx := [(ho, .inr (1, [.ref v1, .ref q_t, .int v3])), (v1, .inl (cc.2.1, v2, .inl v4)), (q_t, .inl (cc.2.1, 182, .inl v5))]) hP hD [0, 1, 2] [] rfl rfl (by decide) (by decide) hk1 hFc hP1 hD1
  generalize H1 = H at hP hS ⊢
  have hP : va_P (dC, dI) vwCl (([(ho, .inr (1, [.ref v1, .ref q_t, .int v3])), (v1, .inl (cc.2.1, v2, .inl v4)), (q_t, .inl (cc.2.1, 182, .inl v5))] : va_W) ++ px_cp cc ho cm np ns hm pa sa v6 pp ss) H := hP
  have hD : va_D A (([(ho, .inr (1, [.ref v1, .ref q_t, .int v3])), (v1, .inl (cc.2.1, v2, .inl v4)), (q_t, .inl (cc.2.1, 182, .inl v5))] : va_W) ++ px_cp cc ho cm np ns hm pa sa v6 pp ss) := hD
  refine lv_iload_n hx hb px_d274_4 rfl (lv_at hl 2 rfl) ?_
  refine lv_ixor hx hb px_d274_5 ?_
  refine lv_topi (fun z8 ez8 => ?_)
  have hw := hw z8 ez8
  refine lv_istore_n (lv' := [(3, .int z8), (0, .ref (hm a0x)), (1, .int a1x), (2, .int a2x)]) hx hb px_d274_6 rfl hl (by decide) rfl (fun ls hl => ?_)
  refine lv_iload_n hx hb px_d274_7 rfl (lv_at hl 2 rfl) ?_
  by_cases t8_0 : a1x = 0
  · have hw := hw.1 t8_0
    refine lv_tableIn (off := 28) (tgt := 36) hx hb px_d274_8 (by rw [t8_0]; decide) (by rw [t8_0]; decide) (by rw [t8_0]; decide) (by decide) ?_
    refine lv_aload_n hx hb px_d274_36 rfl (lv_at hl 1 rfl) ?_
    obtain ⟨hp37, hw⟩ := hw
    refine va_get (D := (dC, dI)) (ci := 10) (v := .ref ((v6 a0x).1 6)) (C := "MatroidDesk$Matroid") (T := px_T10) (N := 15) hx hb htw px_in10 hown hK hP (3 + (13 * a0x + 0)) (px_cg0 rfl hp37) rfl 6 (by decide) (htw _ px_w1005) (fun _ h9 => h9) rfl px_d274_37 ?_
    refine lv_iload_n hx hb px_d274_40 rfl (lv_at hl 3 rfl) ?_
    obtain ⟨hp41, hw⟩ := hw
    obtain ⟨hi41, hw⟩ := hw
    refine va_bald hx hb hK hP (3 + (13 * a0x + 6)) 1 (px_cg6 rfl hp41) rfl hi41 px_d274_41 ?_
    refine lv_if_eq (tgt := 49) hx hb px_d274_42 (by decide) (fun c42 => ?_) (fun c42 => ?_)
    · have hw := hw.1 c42
      refine lv_iconst (v := 0) hx hb px_d274_49 (by decide) ?_
      exact S50 a1x a2x z8 0 v1 v2 v3 v4 v5 v6 H locs ls hP hD hS (lv_sub hl [1, 2, 3, 0] rfl) hw
    · have hw := hw.2 c42
      refine lv_iconst (v := 1) hx hb px_d274_45 (by decide) ?_
      refine lv_goto (tgt := 50) hx hb px_d274_46 (by decide) ?_
      exact S50 a1x a2x z8 1 v1 v2 v3 v4 v5 v6 H locs ls hP hD hS (lv_sub hl [1, 2, 3, 0] rfl) hw
  by_cases t8_1 : a1x = 1
  · have hw := hw.2.1 t8_1
    refine lv_tableIn (off := 43) (tgt := 51) hx hb px_d274_8 (by rw [t8_1]; decide) (by rw [t8_1]; decide) (by rw [t8_1]; decide) (by decide) ?_
    refine lv_aload_n hx hb px_d274_51 rfl (lv_at hl 1 rfl) ?_
    refine lv_iload_n hx hb px_d274_52 rfl (lv_at hl 3 rfl) ?_
    obtain ⟨hp53, hw⟩ := hw
    have hPc := hP.part (cx := [(ho, .inr (1, [.ref v1, .ref q_t, .int v3])), (v1, .inl (cc.2.1, v2, .inl v4)), (q_t, .inl (cc.2.1, 182, .inl v5))]) [0, 1, 2] rfl
    have hDc := hD.part (cx := [(ho, .inr (1, [.ref v1, .ref q_t, .int v3])), (v1, .inl (cc.2.1, v2, .inl v4)), (q_t, .inl (cc.2.1, 182, .inl v5))]) [0, 1, 2] (by decide) rfl
    have hFc := va_freeP (cx := [(ho, .inr (1, [.ref v1, .ref q_t, .int v3])), (v1, .inl (cc.2.1, v2, .inl v4)), (q_t, .inl (cc.2.1, 182, .inl v5))]) hD hS hA [0, 1, 2] rfl
    have hKc := hK.sub (tys' := [(cc.2.1, .int), (cc.2.2.2.1, .byte), (cc.2.2.2.2, .long), (cc.1, .object "MatroidDesk$Part"), (cc.2.2.1, (.array .int))]) [0, 1, 2, 3, 4] rfl
    refine va_calli (va_runV (As := [.int a2x]) (rest := []) ⟨hx, hb, hml, hown, htw⟩ (w275_met l dC dI H.size ho q_t a0x cc cm np ns hm pa sa pp ss a2x v1 v2 v3 v4 v5 v6 _ hw) (cwV 1 htw (px_gv px_w1398 px_w1401 px_w1402 px_w154 px_g275) rfl rfl rfl (by decide +kernel) ⟨Nat.le_of_ble_eq_true rfl, Nat.le_of_ble_eq_true rfl⟩) ⟨fun a U g mk q => by obtain ⟨q0, q1, qP, qK, qD, qN⟩ := q; exact ⟨q0, q1, qP, va_K.moved (u := U) (U := U.calling g mk a) (Vm.Alike.refl U.vm) qK, qD, qN.same rfl⟩, va_recv hK hP (ci := 10) (q0 := (3 + (13 * a0x + 0))) rfl (px_cg0 rfl hp53), fun U hU hW => ⟨rfl, by rw [hU], by rw [hU]; exact hPc, va_K.moved hW.alike hKc, hDc.weaken (fun _ _ _ _ => trivial), hN.warm hW⟩⟩ rfl rfl hl.1 rfl (lv_room (Nat.le_of_ble_eq_true rfl)) px_d274_53 ⟨(Nat.le_of_ble_eq_true rfl), (Nat.le_of_ble_eq_true rfl)⟩) hS (fun q _ h => hFc q h) hFc (fun r53 u t H1 locs ht hvm hw hB hz1 hk1 hS => ?_)
    obtain ⟨v9, v10, v11, v12, v13, v14⟩ := u
    obtain ⟨hP1, hK1, hD1⟩ := hB
    rw [ht] at hP1
    obtain ⟨hP, hD⟩ := va_joinP (wr := []) (rx := [(ho, .inr (1, [.ref v9, .ref q_t, .int v11])), (v9, .inl (cc.2.1, v10, .inl v12)), (q_t, .inl (cc.2.1, 182, .inl v13))]) hP hD [0, 1, 2] [] rfl rfl (by decide) (by decide) hk1 hFc hP1 hD1
    generalize H1 = H at hP hS ⊢
    have hP : va_P (dC, dI) vwCl (([(ho, .inr (1, [.ref v9, .ref q_t, .int v11])), (v9, .inl (cc.2.1, v10, .inl v12)), (q_t, .inl (cc.2.1, 182, .inl v13))] : va_W) ++ px_cp cc ho cm np ns hm pa sa v14 pp ss) H := hP
    have hD : va_D A (([(ho, .inr (1, [.ref v9, .ref q_t, .int v11])), (v9, .inl (cc.2.1, v10, .inl v12)), (q_t, .inl (cc.2.1, 182, .inl v13))] : va_W) ++ px_cp cc ho cm np ns hm pa sa v14 pp ss) := hD
    obtain ⟨hz9, hw⟩ := hw
    rw [← hQ]
    exact W.zret (v := r53) hx hb hr hz9 (fun t ht hW => ⟨⟨r53, (v9, v10, v11, v12, v13, v14), rfl, hw, by rw [ht]; exact hP, va_K.moved hW.alike hK, hD⟩, hS.F ht⟩) hS.2.2 px_d274_56
  by_cases t8_2 : a1x = 2
  · have hw := hw.2.2.1 t8_2
    refine lv_tableIn (off := 49) (tgt := 57) hx hb px_d274_8 (by rw [t8_2]; decide) (by rw [t8_2]; decide) (by rw [t8_2]; decide) (by decide) ?_
    refine lv_aload_n hx hb px_d274_57 rfl (lv_at hl 1 rfl) ?_
    obtain ⟨hp58, hw⟩ := hw
    refine va_get (D := (dC, dI)) (ci := 10) (v := .ref ((v6 a0x).1 7)) (C := "MatroidDesk$Matroid") (T := px_T10) (N := 15) hx hb htw px_in10 hown hK hP (3 + (13 * a0x + 0)) (px_cg0 rfl hp58) rfl 7 (by decide) (htw _ px_w1006) (fun _ h9 => h9) rfl px_d274_58 ?_
    refine lv_iload_n hx hb px_d274_61 rfl (lv_at hl 0 rfl) ?_
    obtain ⟨hp62, hw⟩ := hw
    obtain ⟨hi62, hw⟩ := hw
    refine va_bald hx hb hK hP (3 + (13 * a0x + 7)) 1 (px_cg7 rfl hp62) rfl hi62 px_d274_62 ?_
    refine lv_aload_n hx hb px_d274_63 rfl (lv_at hl 1 rfl) ?_
    obtain ⟨hp64, hw⟩ := hw
    refine va_get (D := (dC, dI)) (ci := 10) (v := .int ((v6 a0x).2.1 14)) (C := "MatroidDesk$Matroid") (T := px_T10) (N := 15) hx hb htw px_in10 hown hK hP (3 + (13 * a0x + 0)) (px_cg0 rfl hp64) rfl 14 (by decide) (htw _ px_w1267) (fun _ h9 => h9) rfl px_d274_64 ?_
    refine lv_iconst (v := 1) hx hb px_d274_67 (by decide) ?_
    refine lv_isub hx hb px_d274_68 ?_
    refine lv_icmp_ne (tgt := 84) hx hb px_d274_69 (by decide) (fun c69 => ?_) (fun c69 => ?_)
    · have hw := hw.1 c69
      exact S84 a1x a2x z8 v1 v2 v3 v4 v5 v6 H locs ls hP hD hS (lv_sub hl [1, 2, 3, 0] rfl) hw
    · have hw := hw.2 c69
      refine lv_aload_n hx hb px_d274_72 rfl (lv_at hl 1 rfl) ?_
      refine lv_iload_n hx hb px_d274_73 rfl (lv_at hl 0 rfl) ?_
      obtain ⟨hp74, hw⟩ := hw
      have hPc := hP.part (cx := [(ho, .inr (1, [.ref v1, .ref q_t, .int v3])), (v1, .inl (cc.2.1, v2, .inl v4)), (q_t, .inl (cc.2.1, 182, .inl v5))]) [0, 1, 2] rfl
      have hDc := hD.part (cx := [(ho, .inr (1, [.ref v1, .ref q_t, .int v3])), (v1, .inl (cc.2.1, v2, .inl v4)), (q_t, .inl (cc.2.1, 182, .inl v5))]) [0, 1, 2] (by decide) rfl
      have hFc := va_freeP (cx := [(ho, .inr (1, [.ref v1, .ref q_t, .int v3])), (v1, .inl (cc.2.1, v2, .inl v4)), (q_t, .inl (cc.2.1, 182, .inl v5))]) hD hS hA [0, 1, 2] rfl
      have hKc := hK.sub (tys' := [(cc.2.1, .int), (cc.2.2.2.1, .byte), (cc.2.2.2.2, .long), (cc.1, .object "MatroidDesk$Part"), (cc.2.2.1, (.array .int))]) [0, 1, 2, 3, 4] rfl
      refine va_calli (va_runV (As := [.int z8]) (rest := []) ⟨hx, hb, hml, hown, htw⟩ (w276_met l dC dI H.size ho q_t a0x cc cm np ns hm pa sa pp ss z8 v1 v2 v3 v4 v5 v6 _ hw) (cwV 1 htw (px_gv px_w1399 px_w1404 px_w1405 px_w154 px_g276) rfl rfl rfl (by decide +kernel) ⟨Nat.le_of_ble_eq_true rfl, Nat.le_of_ble_eq_true rfl⟩) ⟨fun a U g mk q => by obtain ⟨q0, q1, qP, qK, qD, qN⟩ := q; exact ⟨q0, q1, qP, va_K.moved (u := U) (U := U.calling g mk a) (Vm.Alike.refl U.vm) qK, qD, qN.same rfl⟩, va_recv hK hP (ci := 10) (q0 := (3 + (13 * a0x + 0))) rfl (px_cg0 rfl hp74), fun U hU hW => ⟨rfl, by rw [hU], by rw [hU]; exact hPc, va_K.moved hW.alike hKc, hDc.weaken (fun _ _ _ _ => trivial), hN.warm hW⟩⟩ rfl rfl hl.1 rfl (lv_room (Nat.le_of_ble_eq_true rfl)) px_d274_74 ⟨(Nat.le_of_ble_eq_true rfl), (Nat.le_of_ble_eq_true rfl)⟩) hS (fun q _ h => hFc q h) hFc (fun r74 u t H1 locs ht hvm hw hB hz1 hk1 hS => ?_)
      obtain ⟨v16, v17, v18, v19, v20, v21⟩ := u
      obtain ⟨hP1, hK1, hD1⟩ := hB
      rw [ht] at hP1
      obtain ⟨hP, hD⟩ := va_joinP (wr := []) (rx := [(ho, .inr (1, [.ref v16, .ref q_t, .int v18])), (v16, .inl (cc.2.1, v17, .inl v19)), (q_t, .inl (cc.2.1, 182, .inl v20))]) hP hD [0, 1, 2] [] rfl rfl (by decide) (by decide) hk1 hFc hP1 hD1
      generalize H1 = H at hP hS ⊢
      have hP : va_P (dC, dI) vwCl (([(ho, .inr (1, [.ref v16, .ref q_t, .int v18])), (v16, .inl (cc.2.1, v17, .inl v19)), (q_t, .inl (cc.2.1, 182, .inl v20))] : va_W) ++ px_cp cc ho cm np ns hm pa sa v21 pp ss) H := hP
      have hD : va_D A (([(ho, .inr (1, [.ref v16, .ref q_t, .int v18])), (v16, .inl (cc.2.1, v17, .inl v19)), (q_t, .inl (cc.2.1, 182, .inl v20))] : va_W) ++ px_cp cc ho cm np ns hm pa sa v21 pp ss) := hD
      refine lv_if_eq (tgt := 84) hx hb px_d274_77 (by decide) (fun c77 => ?_) (fun c77 => ?_)
      · have hw := hw.1 c77
        exact S84 a1x a2x z8 v16 v17 v18 v19 v20 v21 H locs ls hP hD hS (lv_sub hl [1, 2, 3, 0] rfl) hw
      · have hw := hw.2 c77
        refine lv_iconst (v := 1) hx hb px_d274_80 (by decide) ?_
        refine lv_goto (tgt := 85) hx hb px_d274_81 (by decide) ?_
        exact S85 a1x a2x z8 1 v16 v17 v18 v19 v20 v21 H locs ls hP hD hS (lv_sub hl [1, 2, 3, 0] rfl) hw
  have hw := hw.2.2.2 t8_0 t8_1 t8_2
  refine lv_tableOut (tgt := 86) hx hb px_d274_8 (px_tab (lo := 0) (hi := 2) (ks := [0, 1, 2]) (by decide) (by intro k9 hk9; simp only [List.mem_cons, List.not_mem_nil, or_false] at hk9; rcases hk9 with rfl | rfl | rfl <;> assumption)) (by decide) ?_
  refine lv_aload_n hx hb px_d274_86 rfl (lv_at hl 1 rfl) ?_
  refine lv_iload_n hx hb px_d274_87 rfl (lv_at hl 3 rfl) ?_
  obtain ⟨hp88, hw⟩ := hw
  have hPc := hP.part (cx := [(ho, .inr (1, [.ref v1, .ref q_t, .int v3])), (v1, .inl (cc.2.1, v2, .inl v4)), (q_t, .inl (cc.2.1, 182, .inl v5))]) [0, 1, 2] rfl
  have hDc := hD.part (cx := [(ho, .inr (1, [.ref v1, .ref q_t, .int v3])), (v1, .inl (cc.2.1, v2, .inl v4)), (q_t, .inl (cc.2.1, 182, .inl v5))]) [0, 1, 2] (by decide) rfl
  have hFc := va_freeP (cx := [(ho, .inr (1, [.ref v1, .ref q_t, .int v3])), (v1, .inl (cc.2.1, v2, .inl v4)), (q_t, .inl (cc.2.1, 182, .inl v5))]) hD hS hA [0, 1, 2] rfl
  have hKc := hK.sub (tys' := [(cc.2.1, .int), (cc.2.2.2.1, .byte), (cc.2.2.2.2, .long), (cc.1, .object "MatroidDesk$Part"), (cc.2.2.1, (.array .int))]) [0, 1, 2, 3, 4] rfl
  refine va_calli (va_runV (As := [.int a2x]) (rest := []) ⟨hx, hb, hml, hown, htw⟩ (w276_met l dC dI H.size ho q_t a0x cc cm np ns hm pa sa pp ss a2x v1 v2 v3 v4 v5 v6 _ hw) (cwV 1 htw (px_gv px_w1399 px_w1404 px_w1405 px_w154 px_g276) rfl rfl rfl (by decide +kernel) ⟨Nat.le_of_ble_eq_true rfl, Nat.le_of_ble_eq_true rfl⟩) ⟨fun a U g mk q => by obtain ⟨q0, q1, qP, qK, qD, qN⟩ := q; exact ⟨q0, q1, qP, va_K.moved (u := U) (U := U.calling g mk a) (Vm.Alike.refl U.vm) qK, qD, qN.same rfl⟩, va_recv hK hP (ci := 10) (q0 := (3 + (13 * a0x + 0))) rfl (px_cg0 rfl hp88), fun U hU hW => ⟨rfl, by rw [hU], by rw [hU]; exact hPc, va_K.moved hW.alike hKc, hDc.weaken (fun _ _ _ _ => trivial), hN.warm hW⟩⟩ rfl rfl hl.1 rfl (lv_room (Nat.le_of_ble_eq_true rfl)) px_d274_88 ⟨(Nat.le_of_ble_eq_true rfl), (Nat.le_of_ble_eq_true rfl)⟩) hS (fun q _ h => hFc q h) hFc (fun r88 u t H1 locs ht hvm hw hB hz1 hk1 hS => ?_)
  obtain ⟨v23, v24, v25, v26, v27, v28⟩ := u
  obtain ⟨hP1, hK1, hD1⟩ := hB
  rw [ht] at hP1
  obtain ⟨hP, hD⟩ := va_joinP (wr := []) (rx := [(ho, .inr (1, [.ref v23, .ref q_t, .int v25])), (v23, .inl (cc.2.1, v24, .inl v26)), (q_t, .inl (cc.2.1, 182, .inl v27))]) hP hD [0, 1, 2] [] rfl rfl (by decide) (by decide) hk1 hFc hP1 hD1
  generalize H1 = H at hP hS ⊢
  have hP : va_P (dC, dI) vwCl (([(ho, .inr (1, [.ref v23, .ref q_t, .int v25])), (v23, .inl (cc.2.1, v24, .inl v26)), (q_t, .inl (cc.2.1, 182, .inl v27))] : va_W) ++ px_cp cc ho cm np ns hm pa sa v28 pp ss) H := hP
  have hD : va_D A (([(ho, .inr (1, [.ref v23, .ref q_t, .int v25])), (v23, .inl (cc.2.1, v24, .inl v26)), (q_t, .inl (cc.2.1, 182, .inl v27))] : va_W) ++ px_cp cc ho cm np ns hm pa sa v28 pp ss) := hD
  obtain ⟨hz9, hw⟩ := hw
  rw [← hQ]
  exact W.zret (v := r88) hx hb hr hz9 (fun t ht hW => ⟨⟨r88, (v23, v24, v25, v26, v27, v28), rfl, hw, by rw [ht]; exact hP, va_K.moved hW.alike hK, hD⟩, hS.F ht⟩) hS.2.2 px_d274_91

