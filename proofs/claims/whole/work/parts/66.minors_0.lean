set_option maxHeartbeats 4000000 in
set_option maxRecDepth 100000 in
/-- Source(..) -/
theorem px_Source_init (l : Launch) (dC : Nat → ClassId) (dI : Nat → Nat → Nat) (sz : Nat) (h0 : Nat) (r4 : Nat) (a1x : Int32) (a2x : Int32) (a3x : Int32) : Met l px_y244 px_s244 ({ frames := 1, cells := 0, slots := 0, locals := 12 }) (va_Pc [.ref h0, .int a1x, .int a2x, .int a3x, .ref r4] (fun U => U.heap.size = sz ∧ va_P (dC, dI) vwCl [(h0, .inr (12, [.int 0, .int 0, .int 0, .null]))] U.heap ∧ va_K (dC, dI) vwCl [] U ∧ va_D (fun _ => True) [(h0, .inr (12, [.int 0, .int 0, .int 0, .null]))] ∧ px_N U)) (va_Qv (fun (_ : Unit) => True) (fun (_ : Unit) (t : State) => va_P (dC, dI) vwCl [(h0, .inr (12, [.int a1x, .int a2x, .int a3x, .ref r4]))] t.heap ∧ va_K (dC, dI) vwCl [] t ∧ va_D (va_A [(h0, .inr (12, [.int 0, .int 0, .int 0, .null]))] sz) [(h0, .inr (12, [.int a1x, .int a2x, .int a3x, .ref r4]))]) (va_A [(h0, .inr (12, [.int 0, .int 0, .int 0, .null]))] sz)) 0 0 (va_A [(h0, .inr (12, [.int 0, .int 0, .int 0, .null]))] sz) := by
  refine Met.ofW (cc := prog_8_method_1_code) (maxL := 5) (ret := none) (by decide) rfl ?_
  intro p e s m args below meth c s₁ B hml hv
  obtain ⟨rfl, hsz, hP, hK, hD0, hN⟩ := hv
  have hx := B.exec
  have hb := B.bytes
  have hr := B.returns
  have htw : ∀ w ∈ px_all, w.before _ s = true := fun w h => atoms_spec (ws := px_s244) B.pre w (List.mem_cons_of_mem _ h)
  have hown : s.vm.findClass "MatroidDesk$Source" = some m.cls := findClass_of_methodNamed B.named
  have hlocks := B.notSynchronized
  have hin : meth.name = "<init>" := (name_of_methodNamed B.named B.method).1
  subst hsz
  have hD := hD0.self (sz := s.heap.size)
  generalize hAe : va_A [(h0, .inr (12, [.int 0, .int 0, .int 0, .null]))] s.heap.size = A at hD ⊢
  have hA : ∀ q : Nat, s.heap.size ≤ q → A q := fun q h => by rw [← hAe]; exact Or.inr h
  have hS : va_S A s.heap s.heap [] := va_S.rf
  have hP : va_P (dC, dI) vwCl [(h0, .inr (12, [.int 0, .int 0, .int 0, .null]))] s.heap := hP
  have hl := lv_entry ([.ref h0, .int a1x, .int a2x, .int a3x, .ref r4]) (n := 5) (Nat.le_of_ble_eq_true rfl)
  rw [lg_entry_eq]
  generalize (lg_sl ([.ref h0, .int a1x, .int a2x, .int a3x, .ref r4]) ++ List.replicate (5 - (lg_sl ([.ref h0, .int a1x, .int a2x, .int a3x, .ref r4])).length) Slot.unset).toArray = ls at hl ⊢
  have hl : lv_has ls 5 [(0, .ref h0), (1, .int a1x), (2, .int a2x), (3, .int a3x), (4, .ref r4)] := hl
  refine lv_aload_n hx hb px_d244_0 rfl (lv_at hl 0 rfl) ?_
  refine W.objInit hx hb hown (htw _ px_w1254) (htw _ px_w1) (htw _ px_w0) rfl (by rw [hml]; exact hl.1) rfl px_d244_1 (Nat.le_of_ble_eq_true rfl) (Nat.le_of_ble_eq_true rfl) ?_
  refine W.eq (g2 := F0 m 4 ls []) rfl ?_
  refine lv_aload_n hx hb px_d244_4 rfl (lv_at hl 0 rfl) ?_
  refine lv_iload_n hx hb px_d244_5 rfl (lv_at hl 1 rfl) ?_
  refine va_putF (D := (dC, dI)) (ci := 12) (v := .int a1x) (ty := .int) (C := "MatroidDesk$Source") (T := px_T12) (N := 4) hx hb htw px_in12 px_ty12 px_tyok12 px_nm12 hown hK hP hD hS 0 rfl rfl 0 (by decide) (htw _ px_w1255) (fun _ h9 => h9) rfl hin rfl (by decide +kernel) rfl rfl (Nat.le_of_ble_eq_true rfl) px_d244_6 (fun H locs hP hD hS => ?_)
  have hP : va_P (dC, dI) vwCl [(h0, .inr (12, [.int a1x, .int 0, .int 0, .null]))] H := hP
  have hD : va_D A [(h0, .inr (12, [.int a1x, .int 0, .int 0, .null]))] := hD
  refine lv_aload_n hx hb px_d244_9 rfl (lv_at hl 0 rfl) ?_
  refine lv_iload_n hx hb px_d244_10 rfl (lv_at hl 2 rfl) ?_
  refine va_putF (D := (dC, dI)) (ci := 12) (v := .int a2x) (ty := .int) (C := "MatroidDesk$Source") (T := px_T12) (N := 4) hx hb htw px_in12 px_ty12 px_tyok12 px_nm12 hown hK hP hD hS 0 rfl rfl 1 (by decide) (htw _ px_w1256) (fun _ h9 => h9) rfl hin rfl (by decide +kernel) rfl rfl (Nat.le_of_ble_eq_true rfl) px_d244_11 (fun H locs hP hD hS => ?_)
  have hP : va_P (dC, dI) vwCl [(h0, .inr (12, [.int a1x, .int a2x, .int 0, .null]))] H := hP
  have hD : va_D A [(h0, .inr (12, [.int a1x, .int a2x, .int 0, .null]))] := hD
  refine lv_aload_n hx hb px_d244_14 rfl (lv_at hl 0 rfl) ?_
  refine lv_iload_n hx hb px_d244_15 rfl (lv_at hl 3 rfl) ?_
  refine va_putF (D := (dC, dI)) (ci := 12) (v := .int a3x) (ty := .int) (C := "MatroidDesk$Source") (T := px_T12) (N := 4) hx hb htw px_in12 px_ty12 px_tyok12 px_nm12 hown hK hP hD hS 0 rfl rfl 2 (by decide) (htw _ px_w1257) (fun _ h9 => h9) rfl hin rfl (by decide +kernel) rfl rfl (Nat.le_of_ble_eq_true rfl) px_d244_16 (fun H locs hP hD hS => ?_)
  have hP : va_P (dC, dI) vwCl [(h0, .inr (12, [.int a1x, .int a2x, .int a3x, .null]))] H := hP
  have hD : va_D A [(h0, .inr (12, [.int a1x, .int a2x, .int a3x, .null]))] := hD
  refine lv_aload_n hx hb px_d244_19 rfl (lv_at hl 0 rfl) ?_
  refine lv_aload hx hb px_d244_20 (lv_at hl 4 rfl) ?_
  refine va_putF (D := (dC, dI)) (ci := 12) (v := .ref r4) (ty := (.array .int)) (C := "MatroidDesk$Source") (T := px_T12) (N := 4) hx hb htw px_in12 px_ty12 px_tyok12 px_nm12 hown hK hP hD hS 0 rfl rfl 3 (by decide) (htw _ px_w1258) (fun _ h9 => h9) rfl hin rfl (by decide +kernel) rfl rfl (Nat.le_of_ble_eq_true rfl) px_d244_22 (fun H locs hP hD hS => ?_)
  have hP : va_P (dC, dI) vwCl [(h0, .inr (12, [.int a1x, .int a2x, .int a3x, .ref r4]))] H := hP
  have hD : va_D A [(h0, .inr (12, [.int a1x, .int a2x, .int a3x, .ref r4]))] := hD
  have hP9 := hP.sub (ws' := [(h0, .inr (12, [.int a1x, .int a2x, .int a3x, .ref r4]))]) [0] rfl
  have hD9 := hD.sub (ws' := [(h0, .inr (12, [.int a1x, .int a2x, .int a3x, .ref r4]))]) [0] (by decide) rfl
  have hK9 := hK.sub (tys' := []) [] rfl
  refine W.widen (k := 0) (n := 0) (Nat.le_of_ble_eq_true rfl) (Nat.le_of_ble_eq_true rfl) ?_
  exact W.vret hx hb hr (fun t ht hW => ⟨⟨(), rfl, trivial, by rw [ht]; exact hP9, va_K.moved hW.alike hK9, hD9⟩, hS.F ht⟩) hS.2.2 px_d244_25
/-! MatroidDesk.crossesOdd(II)Z -/
def w294_L35 (post : Int32 → Prop) (x0 : Int32) (x1 : Int32) (x2 : Int32) (x3 : Int32) (y0 : Int32) : Prop := narrow .boolean (.int y0) = .int y0 ∧ post y0 
def w294_wp (post : Int32 → Prop) (a0x : Int32) (a1x : Int32) : Prop := ∀ z1 : Int32, z1 = a1x &&& (-a1x) → ∀ z2 : Int32, z2 = ((a1x ^^^ z1) - 1) &&& (((2 * z1) - 1) ^^^ (-1)) → w250_wp (fun r22  => ((r22 &&& 1) = 0 → w294_L35 post a0x a1x z1 z2 0) ∧ (¬ (r22 &&& 1) = 0 → w294_L35 post a0x a1x z1 z2 1)) (a0x &&& z2)
set_option maxHeartbeats 8000000 in
set_option maxRecDepth 100000 in
theorem w294_met (l : Launch) (dC : Nat → ClassId) (dI : Nat → Nat → Nat) (sz : Nat) (a0x : Int32) (a1x : Int32) (post : Int32 → Prop) (hw : w294_wp post a0x a1x) : Met l px_y294 px_s294 ({ frames := 1, cells := 0, slots := 0, locals := 20 }) (va_Pc [.int a0x, .int a1x] (fun U => U.heap.size = sz ∧ va_P (dC, dI) vwCl [] U.heap ∧ va_K (dC, dI) vwCl [] U ∧ va_D (fun _ => True) [] ∧ px_N U)) (va_Qi (fun (r : Int32) (u : Unit) => post r ) (fun (u : Unit) (t : State) => va_P (dC, dI) vwCl [] t.heap ∧ va_K (dC, dI) vwCl [] t ∧ va_D (va_A [] sz) []) (va_A [] sz)) 0 0 (va_A [] sz) := by
  refine Met.ofW (cc := prog_1_method_44_code) (maxL := 4) (ret := (some .boolean)) (by decide) rfl ?_
  intro p e s m args below meth c s₁ B hml hv
  obtain ⟨rfl, hsz, hP, hK, hD0, hN⟩ := hv
  have hx := B.exec
  have hb := B.bytes
  have hr := B.returns
  have htw : ∀ w ∈ px_all, w.before _ s = true := fun w h => atoms_spec (ws := px_s294) B.pre w (List.mem_cons_of_mem _ h)
  have hown : s.vm.findClass "MatroidDesk" = some m.cls := findClass_of_methodNamed B.named
  have hlocks := B.notSynchronized
  subst hsz
  have hD := hD0.self (sz := s.heap.size)
  generalize hAe : va_A [] s.heap.size = A at hD ⊢
  have hA : ∀ q : Nat, s.heap.size ≤ q → A q := fun q h => by rw [← hAe]; exact Or.inr h
  have hS : va_S A s.heap s.heap [] := va_S.rf
  have hP : va_P (dC, dI) vwCl [] s.heap := hP
  have hl := lv_entry ([.int a0x, .int a1x]) (n := 4) (Nat.le_of_ble_eq_true rfl)
  rw [lg_entry_eq]
  generalize (lg_sl ([.int a0x, .int a1x]) ++ List.replicate (4 - (lg_sl ([.int a0x, .int a1x])).length) Slot.unset).toArray = ls at hl ⊢
  have hl : lv_has ls 4 [(0, .int a0x), (1, .int a1x)] := hl
  generalize hQ : MQ _ _ _ _ _ _ _ = Q
  have S35 : ∀ (x0 : Int32) (x1 : Int32) (x2 : Int32) (x3 : Int32) (y0 : Int32) (H : Heap) (locs : List Loc) (ls : Array Slot), va_P (dC, dI) vwCl [] H → va_D A [] → va_S A s.heap H locs → lv_has ls 4 [(0, .int x0), (1, .int x1), (2, .int x2), (3, .int x3)] → w294_L35 post x0 x1 x2 x3 y0 → W p l e (headSpec px_s294 ({ frames := 1, cells := 0, slots := 0, locals := 20 })).room s m ([.int a0x, .int a1x]).toArray below meth c H locs 0 0 Q (F0 m 35 ls [.int y0]) := by
    intro x0 x1 x2 x3 y0 H locs ls hP hD hS hl hw
    unfold w294_L35 at hw
    obtain ⟨hz9, hw⟩ := hw
    rw [← hQ]
    exact W.zret (v := y0) hx hb hr hz9 (fun t ht hW => ⟨⟨y0, (), rfl, hw, by rw [ht]; exact hP, va_K.moved hW.alike hK, hD⟩, hS.F ht⟩) hS.2.2 px_d294_35
  unfold w294_wp at hw
  have hS0 := hS
  obtain ⟨H, hH9⟩ : ∃ z, z = s.heap := ⟨_, rfl⟩
  have hP : va_P (dC, dI) vwCl [] H := by rw [hH9]; exact hP
  obtain ⟨locs, hlo9⟩ : ∃ z : List Loc, z = [] := ⟨_, rfl⟩
  have hS : va_S A s.heap H locs := by rw [hH9, hlo9]; exact hS
  suffices hG : W p l e (headSpec px_s294 ({ frames := 1, cells := 0, slots := 0, locals := 20 })).room s m ([.int a0x, .int a1x]).toArray below meth c H locs 0 0 Q (F0 m 0 ls []) by rw [hH9, hlo9] at hG; exact hG
  refine lv_iload_n hx hb px_d294_0 rfl (lv_at hl 1 rfl) ?_
  refine lv_iload_n hx hb px_d294_1 rfl (lv_at hl 1 rfl) ?_
  refine lv_ineg hx hb px_d294_2 ?_
  refine lv_iand hx hb px_d294_3 ?_
  refine lv_topi (fun z1 ez1 => ?_)
  have hw := hw z1 ez1
  refine lv_istore_n (lv' := [(2, .int z1), (0, .int a0x), (1, .int a1x)]) hx hb px_d294_4 rfl hl (by decide) rfl (fun ls hl => ?_)
  refine lv_iload_n hx hb px_d294_5 rfl (lv_at hl 2 rfl) ?_
  refine lv_iload_n hx hb px_d294_6 rfl (lv_at hl 0 rfl) ?_
  refine lv_ixor hx hb px_d294_7 ?_
  refine lv_iconst (v := 1) hx hb px_d294_8 (by decide) ?_
  refine lv_isub hx hb px_d294_9 ?_
  refine lv_iconst (v := 2) hx hb px_d294_10 (by decide) ?_
  refine lv_iload_n hx hb px_d294_11 rfl (lv_at hl 0 rfl) ?_
  refine lv_imul hx hb px_d294_12 ?_
  refine lv_iconst (v := 1) hx hb px_d294_13 (by decide) ?_
  refine lv_isub hx hb px_d294_14 ?_
  refine lv_iconst (v := (-1)) hx hb px_d294_15 (by decide) ?_
  refine lv_ixor hx hb px_d294_16 ?_
  refine lv_iand hx hb px_d294_17 ?_
  refine lv_topi (fun z2 ez2 => ?_)
  have hw := hw z2 ez2
  refine lv_istore_n (lv' := [(3, .int z2), (2, .int z1), (0, .int a0x), (1, .int a1x)]) hx hb px_d294_18 rfl hl (by decide) rfl (fun ls hl => ?_)
  refine lv_iload_n hx hb px_d294_19 rfl (lv_at hl 2 rfl) ?_
  refine lv_iload_n hx hb px_d294_20 rfl (lv_at hl 0 rfl) ?_
  refine lv_iand hx hb px_d294_21 ?_
  have hPc := hP.sub (ws' := []) [] rfl
  have hDc := hD.sub (ws' := []) [] (by decide) rfl
  have hKc := hK.sub (tys' := []) [] rfl
  have hFc := va_free (wc := []) hD hS hA [] rfl
  refine va_calli (va_runS (As := [.int (a0x &&& z2)]) (rest := []) ⟨hx, hb, hml, hown, htw⟩ (w250_met l dC dI H.size (a0x &&& z2) _ hw) (va_cwS 1 htw (px_gs2 px_w1478 px_w1290 px_w1764 px_g250) rfl rfl rfl (by decide +kernel) ⟨Nat.le_of_ble_eq_true rfl, Nat.le_of_ble_eq_true rfl⟩) ⟨fun a U g mk q => by obtain ⟨q0, q1, qP, qK, qD, qN⟩ := q; exact ⟨q0, q1, qP, va_K.moved (u := U) (U := U.calling g mk a) (Vm.Alike.refl U.vm) qK, qD, qN.same rfl⟩, fun U hU hW => ⟨rfl, by rw [hU], by rw [hU]; exact hPc, va_K.moved hW.alike hKc, hDc.weaken (fun _ _ _ _ => trivial), hN.warm hW⟩⟩ rfl rfl hl.1 rfl (lv_room (Nat.le_of_ble_eq_true rfl)) px_d294_22 ⟨(Nat.le_of_ble_eq_true rfl), (Nat.le_of_ble_eq_true rfl)⟩) hS (fun q _ h => hFc q h) hFc (fun r22 u t H1 locs ht hvm hw hB hz1 hk1 hS => ?_)
  obtain ⟨hP1, hK1, hD1⟩ := hB
  rw [ht] at hP1
  have hK1 := va_K.moved hvm.symm hK1
  obtain ⟨hP, hD⟩ := va_join (wr := []) (w1 := []) hP hD [] [] rfl rfl (by decide) (by decide) hk1 hFc hP1 hD1
  generalize H1 = H at hP hS ⊢
  have hP : va_P (dC, dI) vwCl [] H := hP
  have hD : va_D A [] := hD
  refine lv_iconst (v := 1) hx hb px_d294_25 (by decide) ?_
  refine lv_iand hx hb px_d294_26 ?_
  refine lv_if_eq (tgt := 34) hx hb px_d294_27 (by decide) (fun c27 => ?_) (fun c27 => ?_)
  · have hw := hw.1 c27
    refine lv_iconst (v := 0) hx hb px_d294_34 (by decide) ?_
    exact S35 a0x a1x z1 z2 0 H locs ls hP hD hS (lv_sub hl [2, 3, 1, 0] rfl) hw
  · have hw := hw.2 c27
    refine lv_iconst (v := 1) hx hb px_d294_30 (by decide) ?_
    refine lv_goto (tgt := 35) hx hb px_d294_31 (by decide) ?_
    exact S35 a0x a1x z1 z2 1 H locs ls hP hD hS (lv_sub hl [2, 3, 1, 0] rfl) hw

/-! MatroidDesk$Minors.signOf(I)I -/
def w243_L43 (post : Int32 → Nat → Nat → Nat → Nat → Nat → Nat → Int32 → Int32 → Int32 → Option Nat → (Nat → Int64) → (Nat → Int64) → (Nat → Int64) → Prop) (x1 : Int32) (y0 : Int32) (q_l : Nat) (q_m : Nat) (q_h : Nat) (l_l : Nat) (l_m : Nat) (l_h : Nat) (m_field : Int32) (m_size : Int32) (m_height : Int32) (m_loaded : Option Nat) (g_l : Nat → Int64) (g_m : Nat → Int64) (g_h : Nat → Int64) : Prop := post y0 q_l q_m q_h l_l l_m l_h m_field m_size m_height m_loaded g_l g_m g_h
def w243_wp (post : Int32 → Nat → Nat → Nat → Nat → Nat → Nat → Int32 → Int32 → Int32 → Option Nat → (Nat → Int64) → (Nat → Int64) → (Nat → Int64) → Prop) (a1x : Int32) (q_l : Nat) (q_m : Nat) (q_h : Nat) (l_l : Nat) (l_m : Nat) (l_h : Nat) (m_field : Int32) (m_size : Int32) (m_height : Int32) (m_loaded : Option Nat) (g_l : Nat → Int64) (g_m : Nat → Int64) (g_h : Nat → Int64) : Prop := vp_in a1x l_h ∧ ((0 ≤ (lg_cmp (g_h (Int32.toNatClampNeg a1x)) 0) → vp_in a1x l_l ∧ (vp_in a1x l_m ∧ (vp_in a1x l_h ∧ ((¬ (lg_cmp (((g_l (Int32.toNatClampNeg a1x)) ||| (g_m (Int32.toNatClampNeg a1x))) ||| (g_h (Int32.toNatClampNeg a1x))) 0) = 0 → w243_L43 post a1x 1 q_l q_m q_h l_l l_m l_h m_field m_size m_height m_loaded g_l g_m g_h) ∧ ((lg_cmp (((g_l (Int32.toNatClampNeg a1x)) ||| (g_m (Int32.toNatClampNeg a1x))) ||| (g_h (Int32.toNatClampNeg a1x))) 0) = 0 → w243_L43 post a1x 0 q_l q_m q_h l_l l_m l_h m_field m_size m_height m_loaded g_l g_m g_h))))) ∧ (¬ 0 ≤ (lg_cmp (g_h (Int32.toNatClampNeg a1x)) 0) → post (-1) q_l q_m q_h l_l l_m l_h m_field m_size m_height m_loaded g_l g_m g_h))
set_option maxHeartbeats 8000000 in
set_option maxRecDepth 100000 in
theorem w243_met (l : Launch) (dC : Nat → ClassId) (dI : Nat → Nat → Nat) (sz : Nat) (hm : Nat) (ho : Nat) (h1 : Nat) (h2 : Nat) (h3 : Nat) (h4 : Nat) (c_j : ClassId) (a1x : Int32) (q_l : Nat) (q_m : Nat) (q_h : Nat) (l_l : Nat) (l_m : Nat) (l_h : Nat) (m_field : Int32) (m_size : Int32) (m_height : Int32) (m_loaded : Option Nat) (g_l : Nat → Int64) (g_m : Nat → Int64) (g_h : Nat → Int64) (post : Int32 → Nat → Nat → Nat → Nat → Nat → Nat → Int32 → Int32 → Int32 → Option Nat → (Nat → Int64) → (Nat → Int64) → (Nat → Int64) → Prop) (hw : w243_wp post a1x q_l q_m q_h l_l l_m l_h m_field m_size m_height m_loaded g_l g_m g_h) : Met l px_y243 px_s243 ({ frames := 0, cells := 0, slots := 0, locals := 0 }) (va_Pc [.ref hm, .int a1x] (fun U => U.heap.size = sz ∧ va_P (dC, dI) vwCl [(hm, .inr (2, [.ref ho, .ref h1, .ref h2, .ref h3, .ref h4, .ref q_l, .ref q_m, .ref q_h, .int m_field, .int m_size, .int m_height, va_rf m_loaded])), (q_l, .inl (c_j, l_l, .inr (.inl g_l))), (q_m, .inl (c_j, l_m, .inr (.inl g_m))), (q_h, .inl (c_j, l_h, .inr (.inl g_h)))] U.heap ∧ va_K (dC, dI) vwCl [(c_j, .long)] U ∧ va_D (fun _ => True) [(hm, .inr (2, [.ref ho, .ref h1, .ref h2, .ref h3, .ref h4, .ref q_l, .ref q_m, .ref q_h, .int m_field, .int m_size, .int m_height, va_rf m_loaded])), (q_l, .inl (c_j, l_l, .inr (.inl g_l))), (q_m, .inl (c_j, l_m, .inr (.inl g_m))), (q_h, .inl (c_j, l_h, .inr (.inl g_h)))] ∧ px_N U)) (va_Qi (fun (r : Int32) (u : Nat × Nat × Nat × Nat × Nat × Nat × Int32 × Int32 × Int32 × Option Nat × (Nat → Int64) × (Nat → Int64) × (Nat → Int64)) => post r u.1 u.2.1 u.2.2.1 u.2.2.2.1 u.2.2.2.2.1 u.2.2.2.2.2.1 u.2.2.2.2.2.2.1 u.2.2.2.2.2.2.2.1 u.2.2.2.2.2.2.2.2.1 u.2.2.2.2.2.2.2.2.2.1 u.2.2.2.2.2.2.2.2.2.2.1 u.2.2.2.2.2.2.2.2.2.2.2.1 u.2.2.2.2.2.2.2.2.2.2.2.2) (fun (u : Nat × Nat × Nat × Nat × Nat × Nat × Int32 × Int32 × Int32 × Option Nat × (Nat → Int64) × (Nat → Int64) × (Nat → Int64)) (t : State) => va_P (dC, dI) vwCl [(hm, .inr (2, [.ref ho, .ref h1, .ref h2, .ref h3, .ref h4, .ref u.1, .ref u.2.1, .ref u.2.2.1, .int u.2.2.2.2.2.2.1, .int u.2.2.2.2.2.2.2.1, .int u.2.2.2.2.2.2.2.2.1, va_rf u.2.2.2.2.2.2.2.2.2.1])), (u.1, .inl (c_j, u.2.2.2.1, .inr (.inl u.2.2.2.2.2.2.2.2.2.2.1))), (u.2.1, .inl (c_j, u.2.2.2.2.1, .inr (.inl u.2.2.2.2.2.2.2.2.2.2.2.1))), (u.2.2.1, .inl (c_j, u.2.2.2.2.2.1, .inr (.inl u.2.2.2.2.2.2.2.2.2.2.2.2)))] t.heap ∧ va_K (dC, dI) vwCl [(c_j, .long)] t ∧ va_D (va_A [(hm, .inr (2, [.ref ho, .ref h1, .ref h2, .ref h3, .ref h4, .ref q_l, .ref q_m, .ref q_h, .int m_field, .int m_size, .int m_height, va_rf m_loaded])), (q_l, .inl (c_j, l_l, .inr (.inl g_l))), (q_m, .inl (c_j, l_m, .inr (.inl g_m))), (q_h, .inl (c_j, l_h, .inr (.inl g_h)))] sz) [(hm, .inr (2, [.ref ho, .ref h1, .ref h2, .ref h3, .ref h4, .ref u.1, .ref u.2.1, .ref u.2.2.1, .int u.2.2.2.2.2.2.1, .int u.2.2.2.2.2.2.2.1, .int u.2.2.2.2.2.2.2.2.1, va_rf u.2.2.2.2.2.2.2.2.2.1])), (u.1, .inl (c_j, u.2.2.2.1, .inr (.inl u.2.2.2.2.2.2.2.2.2.2.1))), (u.2.1, .inl (c_j, u.2.2.2.2.1, .inr (.inl u.2.2.2.2.2.2.2.2.2.2.2.1))), (u.2.2.1, .inl (c_j, u.2.2.2.2.2.1, .inr (.inl u.2.2.2.2.2.2.2.2.2.2.2.2)))]) (va_A [(hm, .inr (2, [.ref ho, .ref h1, .ref h2, .ref h3, .ref h4, .ref q_l, .ref q_m, .ref q_h, .int m_field, .int m_size, .int m_height, va_rf m_loaded])), (q_l, .inl (c_j, l_l, .inr (.inl g_l))), (q_m, .inl (c_j, l_m, .inr (.inl g_m))), (q_h, .inl (c_j, l_h, .inr (.inl g_h)))] sz)) 0 0 (va_A [(hm, .inr (2, [.ref ho, .ref h1, .ref h2, .ref h3, .ref h4, .ref q_l, .ref q_m, .ref q_h, .int m_field, .int m_size, .int m_height, va_rf m_loaded])), (q_l, .inl (c_j, l_l, .inr (.inl g_l))), (q_m, .inl (c_j, l_m, .inr (.inl g_m))), (q_h, .inl (c_j, l_h, .inr (.inl g_h)))] sz) := by
  refine Met.ofW (cc := prog_4_method_4_code) (maxL := 2) (ret := (some .int)) (by decide) rfl ?_
  intro p e s m args below meth c s₁ B hml hv
  obtain ⟨rfl, hsz, hP, hK, hD0, hN⟩ := hv
  have hx := B.exec
  have hb := B.bytes
  have hr := B.returns
  have htw : ∀ w ∈ px_all, w.before _ s = true := fun w h => atoms_spec (ws := px_s243) B.pre w (List.mem_cons_of_mem _ h)
  have hown : s.vm.findClass "MatroidDesk$Minors" = some m.cls := findClass_of_methodNamed B.named
  have hlocks := B.notSynchronized
  subst hsz
  have hD := hD0.self (sz := s.heap.size)
  generalize hAe : va_A [(hm, .inr (2, [.ref ho, .ref h1, .ref h2, .ref h3, .ref h4, .ref q_l, .ref q_m, .ref q_h, .int m_field, .int m_size, .int m_height, va_rf m_loaded])), (q_l, .inl (c_j, l_l, .inr (.inl g_l))), (q_m, .inl (c_j, l_m, .inr (.inl g_m))), (q_h, .inl (c_j, l_h, .inr (.inl g_h)))] s.heap.size = A at hD ⊢
  have hA : ∀ q : Nat, s.heap.size ≤ q → A q := fun q h => by rw [← hAe]; exact Or.inr h
  have hS : va_S A s.heap s.heap [] := va_S.rf
  have hP : va_P (dC, dI) vwCl [(hm, .inr (2, [.ref ho, .ref h1, .ref h2, .ref h3, .ref h4, .ref q_l, .ref q_m, .ref q_h, .int m_field, .int m_size, .int m_height, va_rf m_loaded])), (q_l, .inl (c_j, l_l, .inr (.inl g_l))), (q_m, .inl (c_j, l_m, .inr (.inl g_m))), (q_h, .inl (c_j, l_h, .inr (.inl g_h)))] s.heap := hP
  have hl := lv_entry ([.ref hm, .int a1x]) (n := 2) (Nat.le_of_ble_eq_true rfl)
  rw [lg_entry_eq]
  generalize (lg_sl ([.ref hm, .int a1x]) ++ List.replicate (2 - (lg_sl ([.ref hm, .int a1x])).length) Slot.unset).toArray = ls at hl ⊢
  have hl : lv_has ls 2 [(0, .ref hm), (1, .int a1x)] := hl
  generalize hQ : MQ _ _ _ _ _ _ _ = Q
  have S43 : ∀ (x1 : Int32) (y0 : Int32) (q_l : Nat) (q_m : Nat) (q_h : Nat) (l_l : Nat) (l_m : Nat) (l_h : Nat) (m_field : Int32) (m_size : Int32) (m_height : Int32) (m_loaded : Option Nat) (g_l : Nat → Int64) (g_m : Nat → Int64) (g_h : Nat → Int64) (H : Heap) (locs : List Loc) (ls : Array Slot), va_P (dC, dI) vwCl [(hm, .inr (2, [.ref ho, .ref h1, .ref h2, .ref h3, .ref h4, .ref q_l, .ref q_m, .ref q_h, .int m_field, .int m_size, .int m_height, va_rf m_loaded])), (q_l, .inl (c_j, l_l, .inr (.inl g_l))), (q_m, .inl (c_j, l_m, .inr (.inl g_m))), (q_h, .inl (c_j, l_h, .inr (.inl g_h)))] H → va_D A [(hm, .inr (2, [.ref ho, .ref h1, .ref h2, .ref h3, .ref h4, .ref q_l, .ref q_m, .ref q_h, .int m_field, .int m_size, .int m_height, va_rf m_loaded])), (q_l, .inl (c_j, l_l, .inr (.inl g_l))), (q_m, .inl (c_j, l_m, .inr (.inl g_m))), (q_h, .inl (c_j, l_h, .inr (.inl g_h)))] → va_S A s.heap H locs → lv_has ls 2 [(0, .ref hm), (1, .int x1)] → w243_L43 post x1 y0 q_l q_m q_h l_l l_m l_h m_field m_size m_height m_loaded g_l g_m g_h → W p l e (headSpec px_s243 ({ frames := 0, cells := 0, slots := 0, locals := 0 })).room s m ([.ref hm, .int a1x]).toArray below meth c H locs 0 0 Q (F0 m 43 ls [.int y0]) := by
    intro x1 y0 q_l q_m q_h l_l l_m l_h m_field m_size m_height m_loaded g_l g_m g_h H locs ls hP hD hS hl hw
    unfold w243_L43 at hw
    rw [← hQ]
    exact W.iret (v := y0) hx hb hr (fun t ht hW => ⟨⟨y0, (q_l, q_m, q_h, l_l, l_m, l_h, m_field, m_size, m_height, m_loaded, g_l, g_m, g_h), rfl, hw, by rw [ht]; exact hP, va_K.moved hW.alike hK, hD⟩, hS.F ht⟩) hS.2.2 px_d243_43
  unfold w243_wp at hw
  have hS0 := hS
  obtain ⟨H, hH9⟩ : ∃ z, z = s.heap := ⟨_, rfl⟩
  have hP : va_P (dC, dI) vwCl [(hm, .inr (2, [.ref ho, .ref h1, .ref h2, .ref h3, .ref h4, .ref q_l, .ref q_m, .ref q_h, .int m_field, .int m_size, .int m_height, va_rf m_loaded])), (q_l, .inl (c_j, l_l, .inr (.inl g_l))), (q_m, .inl (c_j, l_m, .inr (.inl g_m))), (q_h, .inl (c_j, l_h, .inr (.inl g_h)))] H := by rw [hH9]; exact hP
  obtain ⟨locs, hlo9⟩ : ∃ z : List Loc, z = [] := ⟨_, rfl⟩
  have hS : va_S A s.heap H locs := by rw [hH9, hlo9]; exact hS
  suffices hG : W p l e (headSpec px_s243 ({ frames := 0, cells := 0, slots := 0, locals := 0 })).room s m ([.ref hm, .int a1x]).toArray below meth c H locs 0 0 Q (F0 m 0 ls []) by rw [hH9, hlo9] at hG; exact hG
  refine lv_aload_n hx hb px_d243_0 rfl (lv_at hl 0 rfl) ?_
  refine va_get (D := (dC, dI)) (ci := 2) (v := .ref q_h) (C := "MatroidDesk$Minors") (T := px_T2) (N := 12) hx hb htw px_in2 hown hK hP 0 rfl rfl 7 (by decide) (htw _ px_w207) (fun _ h9 => h9) rfl px_d243_1 ?_
  refine lv_iload_n hx hb px_d243_4 rfl (lv_at hl 1 rfl) ?_
  obtain ⟨hi5, hw⟩ := hw
  refine va_lald hx hb hK hP 3 0 rfl rfl hi5 px_d243_5 ?_
  refine lv_lconst (v := 0) hx hb px_d243_6 (by decide) ?_
  refine W.lcmp hx hb px_d243_7 ?_
  refine lv_if_ge (tgt := 13) hx hb px_d243_8 (by decide) (fun c8 => ?_) (fun c8 => ?_)
  · have hw := hw.1 c8
    refine lv_aload_n hx hb px_d243_13 rfl (lv_at hl 0 rfl) ?_
    refine va_get (D := (dC, dI)) (ci := 2) (v := .ref q_l) (C := "MatroidDesk$Minors") (T := px_T2) (N := 12) hx hb htw px_in2 hown hK hP 0 rfl rfl 5 (by decide) (htw _ px_w205) (fun _ h9 => h9) rfl px_d243_14 ?_
    refine lv_iload_n hx hb px_d243_17 rfl (lv_at hl 1 rfl) ?_
    obtain ⟨hi18, hw⟩ := hw
    refine va_lald hx hb hK hP 1 0 rfl rfl hi18 px_d243_18 ?_
    refine lv_aload_n hx hb px_d243_19 rfl (lv_at hl 0 rfl) ?_
    refine va_get (D := (dC, dI)) (ci := 2) (v := .ref q_m) (C := "MatroidDesk$Minors") (T := px_T2) (N := 12) hx hb htw px_in2 hown hK hP 0 rfl rfl 6 (by decide) (htw _ px_w206) (fun _ h9 => h9) rfl px_d243_20 ?_
    refine lv_iload_n hx hb px_d243_23 rfl (lv_at hl 1 rfl) ?_
    obtain ⟨hi24, hw⟩ := hw
    refine va_lald hx hb hK hP 2 0 rfl rfl hi24 px_d243_24 ?_
    refine lv_lor hx hb px_d243_25 ?_
    refine lv_aload_n hx hb px_d243_26 rfl (lv_at hl 0 rfl) ?_
    refine va_get (D := (dC, dI)) (ci := 2) (v := .ref q_h) (C := "MatroidDesk$Minors") (T := px_T2) (N := 12) hx hb htw px_in2 hown hK hP 0 rfl rfl 7 (by decide) (htw _ px_w207) (fun _ h9 => h9) rfl px_d243_27 ?_
    refine lv_iload_n hx hb px_d243_30 rfl (lv_at hl 1 rfl) ?_
    obtain ⟨hi31, hw⟩ := hw
    refine va_lald hx hb hK hP 3 0 rfl rfl hi31 px_d243_31 ?_
    refine lv_lor hx hb px_d243_32 ?_
    refine lv_lconst (v := 0) hx hb px_d243_33 (by decide) ?_
    refine W.lcmp hx hb px_d243_34 ?_
    refine lv_if_ne (tgt := 42) hx hb px_d243_35 (by decide) (fun c35 => ?_) (fun c35 => ?_)
    · have hw := hw.1 c35
      refine lv_iconst (v := 1) hx hb px_d243_42 (by decide) ?_
      exact S43 a1x 1 q_l q_m q_h l_l l_m l_h m_field m_size m_height m_loaded g_l g_m g_h H locs ls hP hD hS (lv_sub hl [0, 1] rfl) hw
    · have hw := hw.2 c35
      refine lv_iconst (v := 0) hx hb px_d243_38 (by decide) ?_
      refine lv_goto (tgt := 43) hx hb px_d243_39 (by decide) ?_
      exact S43 a1x 0 q_l q_m q_h l_l l_m l_h m_field m_size m_height m_loaded g_l g_m g_h H locs ls hP hD hS (lv_sub hl [0, 1] rfl) hw
  · have hw := hw.2 c8
    refine lv_iconst (v := (-1)) hx hb px_d243_11 (by decide) ?_
    rw [← hQ]
    exact W.iret (v := (-1)) hx hb hr (fun t ht hW => ⟨⟨(-1), (q_l, q_m, q_h, l_l, l_m, l_h, m_field, m_size, m_height, m_loaded, g_l, g_m, g_h), rfl, hw, by rw [ht]; exact hP, va_K.moved hW.alike hK, hD⟩, hS.F ht⟩) hS.2.2 px_d243_12

/-! MatroidDesk$Minors.inverse(J)J -/
def w316_L2 (post : Int64 → Nat → Nat → Nat → Nat → Nat → Nat → Int32 → Int32 → Int32 → Option Nat → (Nat → Int64) → (Nat → Int64) → (Nat → Int64) → Prop) : Nat → Int64 → Int64 → Nat → Nat → Nat → Nat → Nat → Nat → Int32 → Int32 → Int32 → Option Nat → (Nat → Int64) → (Nat → Int64) → (Nat → Int64) → Prop
  | 0 => fun _ _ _ _ _ _ _ _ _ _ _ _ _ _ _ => False
  | k + 1 => fun x1 x3 q_l q_m q_h l_l l_m l_h m_field m_size m_height m_loaded g_l g_m g_h => (0 ≤ (lg_cmp x3 m_field.toInt64) → post 0 q_l q_m q_h l_l l_m l_h m_field m_size m_height m_loaded g_l g_m g_h) ∧ (¬ 0 ≤ (lg_cmp x3 m_field.toInt64) → ¬ m_field.toInt64 = 0 ∧ ((¬ (lg_cmp ((x1 * x3) - (x1 * x3) / m_field.toInt64 * m_field.toInt64) 1) = 0 → ∀ z1 : Int64, z1 = x3 + 1 → (w316_L2 post k) x1 z1 q_l q_m q_h l_l l_m l_h m_field m_size m_height m_loaded g_l g_m g_h) ∧ ((lg_cmp ((x1 * x3) - (x1 * x3) / m_field.toInt64 * m_field.toInt64) 1) = 0 → post x3 q_l q_m q_h l_l l_m l_h m_field m_size m_height m_loaded g_l g_m g_h)))
def w316_wp (post : Int64 → Nat → Nat → Nat → Nat → Nat → Nat → Int32 → Int32 → Int32 → Option Nat → (Nat → Int64) → (Nat → Int64) → (Nat → Int64) → Prop) (a1x : Int64) (q_l : Nat) (q_m : Nat) (q_h : Nat) (l_l : Nat) (l_m : Nat) (l_h : Nat) (m_field : Int32) (m_size : Int32) (m_height : Int32) (m_loaded : Option Nat) (g_l : Nat → Int64) (g_m : Nat → Int64) (g_h : Nat → Int64) : Prop := ∃ j2, w316_L2 post j2 a1x 1 q_l q_m q_h l_l l_m l_h m_field m_size m_height m_loaded g_l g_m g_h
set_option maxHeartbeats 8000000 in
set_option maxRecDepth 100000 in
theorem w316_met (l : Launch) (dC : Nat → ClassId) (dI : Nat → Nat → Nat) (sz : Nat) (hm : Nat) (ho : Nat) (h1 : Nat) (h2 : Nat) (h3 : Nat) (h4 : Nat) (c_j : ClassId) (a1x : Int64) (q_l : Nat) (q_m : Nat) (q_h : Nat) (l_l : Nat) (l_m : Nat) (l_h : Nat) (m_field : Int32) (m_size : Int32) (m_height : Int32) (m_loaded : Option Nat) (g_l : Nat → Int64) (g_m : Nat → Int64) (g_h : Nat → Int64) (post : Int64 → Nat → Nat → Nat → Nat → Nat → Nat → Int32 → Int32 → Int32 → Option Nat → (Nat → Int64) → (Nat → Int64) → (Nat → Int64) → Prop) (hw : w316_wp post a1x q_l q_m q_h l_l l_m l_h m_field m_size m_height m_loaded g_l g_m g_h) : Met l px_y316 px_s316 ({ frames := 0, cells := 0, slots := 0, locals := 0 }) (va_Pc [.ref hm, .long a1x] (fun U => U.heap.size = sz ∧ va_P (dC, dI) vwCl [(hm, .inr (2, [.ref ho, .ref h1, .ref h2, .ref h3, .ref h4, .ref q_l, .ref q_m, .ref q_h, .int m_field, .int m_size, .int m_height, va_rf m_loaded])), (q_l, .inl (c_j, l_l, .inr (.inl g_l))), (q_m, .inl (c_j, l_m, .inr (.inl g_m))), (q_h, .inl (c_j, l_h, .inr (.inl g_h)))] U.heap ∧ va_K (dC, dI) vwCl [(c_j, .long)] U ∧ va_D (fun _ => True) [(hm, .inr (2, [.ref ho, .ref h1, .ref h2, .ref h3, .ref h4, .ref q_l, .ref q_m, .ref q_h, .int m_field, .int m_size, .int m_height, va_rf m_loaded])), (q_l, .inl (c_j, l_l, .inr (.inl g_l))), (q_m, .inl (c_j, l_m, .inr (.inl g_m))), (q_h, .inl (c_j, l_h, .inr (.inl g_h)))] ∧ px_N U)) (va_Ql (fun (r : Int64) (u : Nat × Nat × Nat × Nat × Nat × Nat × Int32 × Int32 × Int32 × Option Nat × (Nat → Int64) × (Nat → Int64) × (Nat → Int64)) => post r u.1 u.2.1 u.2.2.1 u.2.2.2.1 u.2.2.2.2.1 u.2.2.2.2.2.1 u.2.2.2.2.2.2.1 u.2.2.2.2.2.2.2.1 u.2.2.2.2.2.2.2.2.1 u.2.2.2.2.2.2.2.2.2.1 u.2.2.2.2.2.2.2.2.2.2.1 u.2.2.2.2.2.2.2.2.2.2.2.1 u.2.2.2.2.2.2.2.2.2.2.2.2) (fun (u : Nat × Nat × Nat × Nat × Nat × Nat × Int32 × Int32 × Int32 × Option Nat × (Nat → Int64) × (Nat → Int64) × (Nat → Int64)) (t : State) => va_P (dC, dI) vwCl [(hm, .inr (2, [.ref ho, .ref h1, .ref h2, .ref h3, .ref h4, .ref u.1, .ref u.2.1, .ref u.2.2.1, .int u.2.2.2.2.2.2.1, .int u.2.2.2.2.2.2.2.1, .int u.2.2.2.2.2.2.2.2.1, va_rf u.2.2.2.2.2.2.2.2.2.1])), (u.1, .inl (c_j, u.2.2.2.1, .inr (.inl u.2.2.2.2.2.2.2.2.2.2.1))), (u.2.1, .inl (c_j, u.2.2.2.2.1, .inr (.inl u.2.2.2.2.2.2.2.2.2.2.2.1))), (u.2.2.1, .inl (c_j, u.2.2.2.2.2.1, .inr (.inl u.2.2.2.2.2.2.2.2.2.2.2.2)))] t.heap ∧ va_K (dC, dI) vwCl [(c_j, .long)] t ∧ va_D (va_A [(hm, .inr (2, [.ref ho, .ref h1, .ref h2, .ref h3, .ref h4, .ref q_l, .ref q_m, .ref q_h, .int m_field, .int m_size, .int m_height, va_rf m_loaded])), (q_l, .inl (c_j, l_l, .inr (.inl g_l))), (q_m, .inl (c_j, l_m, .inr (.inl g_m))), (q_h, .inl (c_j, l_h, .inr (.inl g_h)))] sz) [(hm, .inr (2, [.ref ho, .ref h1, .ref h2, .ref h3, .ref h4, .ref u.1, .ref u.2.1, .ref u.2.2.1, .int u.2.2.2.2.2.2.1, .int u.2.2.2.2.2.2.2.1, .int u.2.2.2.2.2.2.2.2.1, va_rf u.2.2.2.2.2.2.2.2.2.1])), (u.1, .inl (c_j, u.2.2.2.1, .inr (.inl u.2.2.2.2.2.2.2.2.2.2.1))), (u.2.1, .inl (c_j, u.2.2.2.2.1, .inr (.inl u.2.2.2.2.2.2.2.2.2.2.2.1))), (u.2.2.1, .inl (c_j, u.2.2.2.2.2.1, .inr (.inl u.2.2.2.2.2.2.2.2.2.2.2.2)))]) (va_A [(hm, .inr (2, [.ref ho, .ref h1, .ref h2, .ref h3, .ref h4, .ref q_l, .ref q_m, .ref q_h, .int m_field, .int m_size, .int m_height, va_rf m_loaded])), (q_l, .inl (c_j, l_l, .inr (.inl g_l))), (q_m, .inl (c_j, l_m, .inr (.inl g_m))), (q_h, .inl (c_j, l_h, .inr (.inl g_h)))] sz)) 0 0 (va_A [(hm, .inr (2, [.ref ho, .ref h1, .ref h2, .ref h3, .ref h4, .ref q_l, .ref q_m, .ref q_h, .int m_field, .int m_size, .int m_height, va_rf m_loaded])), (q_l, .inl (c_j, l_l, .inr (.inl g_l))), (q_m, .inl (c_j, l_m, .inr (.inl g_m))), (q_h, .inl (c_j, l_h, .inr (.inl g_h)))] sz) := by
  refine Met.ofW (cc := prog_4_method_6_code) (maxL := 5) (ret := (some .long)) (by decide) rfl ?_
  intro p e s m args below meth c s₁ B hml hv
  obtain ⟨rfl, hsz, hP, hK, hD0, hN⟩ := hv
  have hx := B.exec
  have hb := B.bytes
  have hr := B.returns
  have htw : ∀ w ∈ px_all, w.before _ s = true := fun w h => atoms_spec (ws := px_s316) B.pre w (List.mem_cons_of_mem _ h)
  have hown : s.vm.findClass "MatroidDesk$Minors" = some m.cls := findClass_of_methodNamed B.named
  have hlocks := B.notSynchronized
  subst hsz
  have hD := hD0.self (sz := s.heap.size)
  generalize hAe : va_A [(hm, .inr (2, [.ref ho, .ref h1, .ref h2, .ref h3, .ref h4, .ref q_l, .ref q_m, .ref q_h, .int m_field, .int m_size, .int m_height, va_rf m_loaded])), (q_l, .inl (c_j, l_l, .inr (.inl g_l))), (q_m, .inl (c_j, l_m, .inr (.inl g_m))), (q_h, .inl (c_j, l_h, .inr (.inl g_h)))] s.heap.size = A at hD ⊢
  have hA : ∀ q : Nat, s.heap.size ≤ q → A q := fun q h => by rw [← hAe]; exact Or.inr h
  have hS : va_S A s.heap s.heap [] := va_S.rf
  have hP : va_P (dC, dI) vwCl [(hm, .inr (2, [.ref ho, .ref h1, .ref h2, .ref h3, .ref h4, .ref q_l, .ref q_m, .ref q_h, .int m_field, .int m_size, .int m_height, va_rf m_loaded])), (q_l, .inl (c_j, l_l, .inr (.inl g_l))), (q_m, .inl (c_j, l_m, .inr (.inl g_m))), (q_h, .inl (c_j, l_h, .inr (.inl g_h)))] s.heap := hP
  have hl := lv_entry ([.ref hm, .long a1x]) (n := 5) (Nat.le_of_ble_eq_true rfl)
  rw [lg_entry_eq]
  generalize (lg_sl ([.ref hm, .long a1x]) ++ List.replicate (5 - (lg_sl ([.ref hm, .long a1x])).length) Slot.unset).toArray = ls at hl ⊢
  have hl : lv_has ls 5 [(0, .ref hm), (1, .long a1x)] := hl
  generalize hQ : MQ _ _ _ _ _ _ _ = Q
  have S2 : ∀ (k2 : Nat) (x1 : Int64) (x3 : Int64) (q_l : Nat) (q_m : Nat) (q_h : Nat) (l_l : Nat) (l_m : Nat) (l_h : Nat) (m_field : Int32) (m_size : Int32) (m_height : Int32) (m_loaded : Option Nat) (g_l : Nat → Int64) (g_m : Nat → Int64) (g_h : Nat → Int64) (H : Heap) (locs : List Loc) (ls : Array Slot), va_P (dC, dI) vwCl [(hm, .inr (2, [.ref ho, .ref h1, .ref h2, .ref h3, .ref h4, .ref q_l, .ref q_m, .ref q_h, .int m_field, .int m_size, .int m_height, va_rf m_loaded])), (q_l, .inl (c_j, l_l, .inr (.inl g_l))), (q_m, .inl (c_j, l_m, .inr (.inl g_m))), (q_h, .inl (c_j, l_h, .inr (.inl g_h)))] H → va_D A [(hm, .inr (2, [.ref ho, .ref h1, .ref h2, .ref h3, .ref h4, .ref q_l, .ref q_m, .ref q_h, .int m_field, .int m_size, .int m_height, va_rf m_loaded])), (q_l, .inl (c_j, l_l, .inr (.inl g_l))), (q_m, .inl (c_j, l_m, .inr (.inl g_m))), (q_h, .inl (c_j, l_h, .inr (.inl g_h)))] → va_S A s.heap H locs → lv_has ls 5 [(0, .ref hm), (1, .long x1), (3, .long x3)] → w316_L2 post k2 x1 x3 q_l q_m q_h l_l l_m l_h m_field m_size m_height m_loaded g_l g_m g_h → W p l e (headSpec px_s316 ({ frames := 0, cells := 0, slots := 0, locals := 0 })).room s m ([.ref hm, .long a1x]).toArray below meth c H locs 0 0 Q (F0 m 2 ls []) := by
    intro k2
    induction k2 with
    | zero => intro x1 x3 q_l q_m q_h l_l l_m l_h m_field m_size m_height m_loaded g_l g_m g_h H locs ls hP hD hS hl hw; exact False.elim hw
    | succ k2 ih2 =>
      intro x1 x3 q_l q_m q_h l_l l_m l_h m_field m_size m_height m_loaded g_l g_m g_h H locs ls hP hD hS hl hw
      unfold w316_L2 at hw
      refine lv_lload_n hx hb px_d316_2 rfl (lv_at hl 2 rfl) ?_
      refine lv_aload_n hx hb px_d316_3 rfl (lv_at hl 0 rfl) ?_
      refine va_get (D := (dC, dI)) (ci := 2) (v := .int m_field) (C := "MatroidDesk$Minors") (T := px_T2) (N := 12) hx hb htw px_in2 hown hK hP 0 rfl rfl 8 (by decide) (htw _ px_w1030) (fun _ h9 => h9) rfl px_d316_4 ?_
      refine lv_i2l (v := m_field.toInt64) hx hb px_d316_7 rfl ?_
      refine W.lcmp hx hb px_d316_8 ?_
      refine lv_if_ge (tgt := 35) hx hb px_d316_9 (by decide) (fun c9 => ?_) (fun c9 => ?_)
      · have hw := hw.1 c9
        refine lv_lconst (v := 0) hx hb px_d316_35 (by decide) ?_
        rw [← hQ]
        exact W.lret (v := 0) hx hb hr (fun t ht hW => ⟨⟨0, (q_l, q_m, q_h, l_l, l_m, l_h, m_field, m_size, m_height, m_loaded, g_l, g_m, g_h), rfl, hw, by rw [ht]; exact hP, va_K.moved hW.alike hK, hD⟩, hS.F ht⟩) hS.2.2 px_d316_36
      · have hw := hw.2 c9
        refine lv_lload_n hx hb px_d316_12 rfl (lv_at hl 1 rfl) ?_
        refine lv_lload_n hx hb px_d316_13 rfl (lv_at hl 2 rfl) ?_
        refine lv_lmul hx hb px_d316_14 ?_
        refine lv_aload_n hx hb px_d316_15 rfl (lv_at hl 0 rfl) ?_
        refine va_get (D := (dC, dI)) (ci := 2) (v := .int m_field) (C := "MatroidDesk$Minors") (T := px_T2) (N := 12) hx hb htw px_in2 hown hK hP 0 rfl rfl 8 (by decide) (htw _ px_w1030) (fun _ h9 => h9) rfl px_d316_16 ?_
        refine lv_i2l (v := m_field.toInt64) hx hb px_d316_19 rfl ?_
        obtain ⟨hd20, hw⟩ := hw
        refine lv_lrem hx hb px_d316_20 hd20 ?_
        refine lv_lconst (v := 1) hx hb px_d316_21 (by decide) ?_
        refine W.lcmp hx hb px_d316_22 ?_
        refine lv_if_ne (tgt := 28) hx hb px_d316_23 (by decide) (fun c23 => ?_) (fun c23 => ?_)
        · have hw := hw.1 c23
          refine lv_lload_n hx hb px_d316_28 rfl (lv_at hl 2 rfl) ?_
          refine lv_lconst (v := 1) hx hb px_d316_29 (by decide) ?_
          refine lv_ladd hx hb px_d316_30 ?_
          refine lv_topl (fun z1 ez1 => ?_)
          have hw := hw z1 ez1
          refine lv_lstore_n (lv' := [(3, .long z1), (0, .ref hm), (1, .long x1)]) hx hb px_d316_31 rfl hl (by decide) rfl (fun ls hl => ?_)
          refine lv_goto (tgt := 2) hx hb px_d316_32 (by decide) ?_
          exact ih2 x1 z1 q_l q_m q_h l_l l_m l_h m_field m_size m_height m_loaded g_l g_m g_h H locs ls hP hD hS (lv_sub hl [1, 2, 0] rfl) hw
        · have hw := hw.2 c23
          refine lv_lload_n hx hb px_d316_26 rfl (lv_at hl 2 rfl) ?_
          rw [← hQ]
          exact W.lret (v := x3) hx hb hr (fun t ht hW => ⟨⟨x3, (q_l, q_m, q_h, l_l, l_m, l_h, m_field, m_size, m_height, m_loaded, g_l, g_m, g_h), rfl, hw, by rw [ht]; exact hP, va_K.moved hW.alike hK, hD⟩, hS.F ht⟩) hS.2.2 px_d316_27
  unfold w316_wp at hw
  have hS0 := hS
  obtain ⟨H, hH9⟩ : ∃ z, z = s.heap := ⟨_, rfl⟩
  have hP : va_P (dC, dI) vwCl [(hm, .inr (2, [.ref ho, .ref h1, .ref h2, .ref h3, .ref h4, .ref q_l, .ref q_m, .ref q_h, .int m_field, .int m_size, .int m_height, va_rf m_loaded])), (q_l, .inl (c_j, l_l, .inr (.inl g_l))), (q_m, .inl (c_j, l_m, .inr (.inl g_m))), (q_h, .inl (c_j, l_h, .inr (.inl g_h)))] H := by rw [hH9]; exact hP
  obtain ⟨locs, hlo9⟩ : ∃ z : List Loc, z = [] := ⟨_, rfl⟩
  have hS : va_S A s.heap H locs := by rw [hH9, hlo9]; exact hS
  suffices hG : W p l e (headSpec px_s316 ({ frames := 0, cells := 0, slots := 0, locals := 0 })).room s m ([.ref hm, .long a1x]).toArray below meth c H locs 0 0 Q (F0 m 0 ls []) by rw [hH9, hlo9] at hG; exact hG
  refine lv_lconst (v := 1) hx hb px_d316_0 (by decide) ?_
  refine lv_lstore_n (lv' := [(3, .long 1), (0, .ref hm), (1, .long a1x)]) hx hb px_d316_1 rfl hl (by decide) rfl (fun ls hl => ?_)
  obtain ⟨k9, hw⟩ := hw
  exact S2 k9 a1x 1 q_l q_m q_h l_l l_m l_h m_field m_size m_height m_loaded g_l g_m g_h H locs ls hP hD hS (lv_sub hl [1, 2, 0] rfl) hw

/-! MatroidDesk$Minors.expand(I[II)V -/
def w241_L104 (K20 : Int32 → Int32 → Int64 → Int64 → Int64 → Int32 → Int32 → Nat → Nat → Nat → Nat → Nat → Nat → Int32 → Int32 → Int32 → Option Nat → (Nat → Int64) → (Nat → Int64) → (Nat → Int64) → (Nat → Int32) → Prop) (n_r : Nat) (post : Nat → Nat → Nat → Nat → Nat → Nat → Int32 → Int32 → Int32 → Option Nat → (Nat → Int64) → (Nat → Int64) → (Nat → Int64) → (Nat → Int32) → Prop) (x1 : Int32) (x3 : Int32) (x4 : Int64) (x6 : Int64) (x8 : Int64) (x10 : Int32) (x11 : Int32) (q_l : Nat) (q_m : Nat) (q_h : Nat) (l_l : Nat) (l_m : Nat) (l_h : Nat) (m_field : Int32) (m_size : Int32) (m_height : Int32) (m_loaded : Option Nat) (g_l : Nat → Int64) (g_m : Nat → Int64) (g_h : Nat → Int64) (g_r : Nat → Int32) : Prop := ∀ z1 : Int32, z1 = x11 + (-1) → K20 x1 x3 x4 x6 x8 x10 z1 q_l q_m q_h l_l l_m l_h m_field m_size m_height m_loaded g_l g_m g_h g_r
def w241_L20 (n_r : Nat) (post : Nat → Nat → Nat → Nat → Nat → Nat → Int32 → Int32 → Int32 → Option Nat → (Nat → Int64) → (Nat → Int64) → (Nat → Int64) → (Nat → Int32) → Prop) : Nat → Int32 → Int32 → Int64 → Int64 → Int64 → Int32 → Int32 → Nat → Nat → Nat → Nat → Nat → Nat → Int32 → Int32 → Int32 → Option Nat → (Nat → Int64) → (Nat → Int64) → (Nat → Int64) → (Nat → Int32) → Prop
  | 0 => fun _ _ _ _ _ _ _ _ _ _ _ _ _ _ _ _ _ _ _ _ _ => False
  | k + 1 => fun x1 x3 x4 x6 x8 x10 x11 q_l q_m q_h l_l l_m l_h m_field m_size m_height m_loaded g_l g_m g_h g_r => (x11 < 0 → (m_field = 0 → ∀ z2 : Int64, z2 = x6 + ((x4 : Int64) >>> ((48 : Int32).toInt64 &&& 63)) → ∀ z3 : Int64, z3 = x4 &&& 281474976710655 → vp_in x1 l_l ∧ (∀ z4 : Int64, z4 = z2 &&& 281474976710655 → vp_in x1 l_m ∧ (∀ z5 : Int64, z5 = x8 + ((z2 : Int64) >>> ((48 : Int32).toInt64 &&& 63)) → vp_in x1 l_h ∧ (post q_l q_m q_h l_l l_m l_h m_field m_size m_height m_loaded (vp_updL g_l (Int32.toNatClampNeg x1) z3) (vp_updL g_m (Int32.toNatClampNeg x1) z4) (vp_updL g_h (Int32.toNatClampNeg x1) z5) g_r)))) ∧ (¬ m_field = 0 → w242_wp (fun r129  => vp_in x1 l_l ∧ (post q_l q_m q_h l_l l_m l_h m_field m_size m_height m_loaded (vp_updL g_l (Int32.toNatClampNeg x1) r129) g_m g_h g_r)) x4 m_field.toInt64)) ∧ (¬ x11 < 0 → (((x1 >>> (x11 &&& 31)) &&& 1) = 0 → w241_L104 (w241_L20 n_r post k) n_r post x1 x3 x4 x6 x8 x10 x11 q_l q_m q_h l_l l_m l_h m_field m_size m_height m_loaded g_l g_m g_h g_r) ∧ (¬ ((x1 >>> (x11 &&& 31)) &&& 1) = 0 → vp_in (x3 + x11) n_r ∧ (∀ z6 : Int64, z6 = (x10 * (g_r (Int32.toNatClampNeg (x3 + x11)))).toInt64 → ∀ z7 : Int32, z7 = x1 ^^^ ((1 : Int32) <<< (x11 &&& 31)) → vp_in z7 l_l ∧ (∀ z8 : Int64, z8 = x4 + (z6 * (g_l (Int32.toNatClampNeg z7))) → vp_in z7 l_m ∧ (∀ z9 : Int64, z9 = x6 + (z6 * (g_m (Int32.toNatClampNeg z7))) → vp_in z7 l_h ∧ (∀ z10 : Int64, z10 = x8 + (z6 * (g_h (Int32.toNatClampNeg z7))) → ∀ z11 : Int32, z11 = -x10 → w241_L104 (w241_L20 n_r post k) n_r post x1 x3 z8 z9 z10 z11 x11 q_l q_m q_h l_l l_m l_h m_field m_size m_height m_loaded g_l g_m g_h g_r))))))
def w241_wp (n_r : Nat) (post : Nat → Nat → Nat → Nat → Nat → Nat → Int32 → Int32 → Int32 → Option Nat → (Nat → Int64) → (Nat → Int64) → (Nat → Int64) → (Nat → Int32) → Prop) (a1x : Int32) (a3x : Int32) (q_l : Nat) (q_m : Nat) (q_h : Nat) (l_l : Nat) (l_m : Nat) (l_h : Nat) (m_field : Int32) (m_size : Int32) (m_height : Int32) (m_loaded : Option Nat) (g_l : Nat → Int64) (g_m : Nat → Int64) (g_h : Nat → Int64) (g_r : Nat → Int32) : Prop := ∀ z12 : Int32, z12 = m_size - 1 → ∃ j20, w241_L20 n_r post j20 a1x a3x 0 0 0 1 z12 q_l q_m q_h l_l l_m l_h m_field m_size m_height m_loaded g_l g_m g_h g_r
set_option maxHeartbeats 8000000 in
set_option maxRecDepth 100000 in
theorem w241_met (l : Launch) (dC : Nat → ClassId) (dI : Nat → Nat → Nat) (sz : Nat) (hm : Nat) (ho : Nat) (h1 : Nat) (h2 : Nat) (h3 : Nat) (h4 : Nat) (c_j : ClassId) (c_i : ClassId) (r2 : Nat) (n_r : Nat) (a1x : Int32) (a3x : Int32) (q_l : Nat) (q_m : Nat) (q_h : Nat) (l_l : Nat) (l_m : Nat) (l_h : Nat) (m_field : Int32) (m_size : Int32) (m_height : Int32) (m_loaded : Option Nat) (g_l : Nat → Int64) (g_m : Nat → Int64) (g_h : Nat → Int64) (g_r : Nat → Int32) (post : Nat → Nat → Nat → Nat → Nat → Nat → Int32 → Int32 → Int32 → Option Nat → (Nat → Int64) → (Nat → Int64) → (Nat → Int64) → (Nat → Int32) → Prop) (hw : w241_wp n_r post a1x a3x q_l q_m q_h l_l l_m l_h m_field m_size m_height m_loaded g_l g_m g_h g_r) : Met l px_y241 px_s241 ({ frames := 1, cells := 0, slots := 0, locals := 25 }) (va_Pc [.ref hm, .int a1x, .ref r2, .int a3x] (fun U => U.heap.size = sz ∧ va_P (dC, dI) vwCl [(hm, .inr (2, [.ref ho, .ref h1, .ref h2, .ref h3, .ref h4, .ref q_l, .ref q_m, .ref q_h, .int m_field, .int m_size, .int m_height, va_rf m_loaded])), (q_l, .inl (c_j, l_l, .inr (.inl g_l))), (q_m, .inl (c_j, l_m, .inr (.inl g_m))), (q_h, .inl (c_j, l_h, .inr (.inl g_h))), (r2, .inl (c_i, n_r, .inl g_r))] U.heap ∧ va_K (dC, dI) vwCl [(c_j, .long), (c_i, .int)] U ∧ va_D (fun _ => True) [(hm, .inr (2, [.ref ho, .ref h1, .ref h2, .ref h3, .ref h4, .ref q_l, .ref q_m, .ref q_h, .int m_field, .int m_size, .int m_height, va_rf m_loaded])), (q_l, .inl (c_j, l_l, .inr (.inl g_l))), (q_m, .inl (c_j, l_m, .inr (.inl g_m))), (q_h, .inl (c_j, l_h, .inr (.inl g_h))), (r2, .inl (c_i, n_r, .inl g_r))] ∧ px_N U)) (va_Qv (fun (u : Nat × Nat × Nat × Nat × Nat × Nat × Int32 × Int32 × Int32 × Option Nat × (Nat → Int64) × (Nat → Int64) × (Nat → Int64) × (Nat → Int32)) => post u.1 u.2.1 u.2.2.1 u.2.2.2.1 u.2.2.2.2.1 u.2.2.2.2.2.1 u.2.2.2.2.2.2.1 u.2.2.2.2.2.2.2.1 u.2.2.2.2.2.2.2.2.1 u.2.2.2.2.2.2.2.2.2.1 u.2.2.2.2.2.2.2.2.2.2.1 u.2.2.2.2.2.2.2.2.2.2.2.1 u.2.2.2.2.2.2.2.2.2.2.2.2.1 u.2.2.2.2.2.2.2.2.2.2.2.2.2) (fun (u : Nat × Nat × Nat × Nat × Nat × Nat × Int32 × Int32 × Int32 × Option Nat × (Nat → Int64) × (Nat → Int64) × (Nat → Int64) × (Nat → Int32)) (t : State) => va_P (dC, dI) vwCl [(hm, .inr (2, [.ref ho, .ref h1, .ref h2, .ref h3, .ref h4, .ref u.1, .ref u.2.1, .ref u.2.2.1, .int u.2.2.2.2.2.2.1, .int u.2.2.2.2.2.2.2.1, .int u.2.2.2.2.2.2.2.2.1, va_rf u.2.2.2.2.2.2.2.2.2.1])), (u.1, .inl (c_j, u.2.2.2.1, .inr (.inl u.2.2.2.2.2.2.2.2.2.2.1))), (u.2.1, .inl (c_j, u.2.2.2.2.1, .inr (.inl u.2.2.2.2.2.2.2.2.2.2.2.1))), (u.2.2.1, .inl (c_j, u.2.2.2.2.2.1, .inr (.inl u.2.2.2.2.2.2.2.2.2.2.2.2.1))), (r2, .inl (c_i, n_r, .inl u.2.2.2.2.2.2.2.2.2.2.2.2.2))] t.heap ∧ va_K (dC, dI) vwCl [(c_j, .long), (c_i, .int)] t ∧ va_D (va_A [(hm, .inr (2, [.ref ho, .ref h1, .ref h2, .ref h3, .ref h4, .ref q_l, .ref q_m, .ref q_h, .int m_field, .int m_size, .int m_height, va_rf m_loaded])), (q_l, .inl (c_j, l_l, .inr (.inl g_l))), (q_m, .inl (c_j, l_m, .inr (.inl g_m))), (q_h, .inl (c_j, l_h, .inr (.inl g_h))), (r2, .inl (c_i, n_r, .inl g_r))] sz) [(hm, .inr (2, [.ref ho, .ref h1, .ref h2, .ref h3, .ref h4, .ref u.1, .ref u.2.1, .ref u.2.2.1, .int u.2.2.2.2.2.2.1, .int u.2.2.2.2.2.2.2.1, .int u.2.2.2.2.2.2.2.2.1, va_rf u.2.2.2.2.2.2.2.2.2.1])), (u.1, .inl (c_j, u.2.2.2.1, .inr (.inl u.2.2.2.2.2.2.2.2.2.2.1))), (u.2.1, .inl (c_j, u.2.2.2.2.1, .inr (.inl u.2.2.2.2.2.2.2.2.2.2.2.1))), (u.2.2.1, .inl (c_j, u.2.2.2.2.2.1, .inr (.inl u.2.2.2.2.2.2.2.2.2.2.2.2.1))), (r2, .inl (c_i, n_r, .inl u.2.2.2.2.2.2.2.2.2.2.2.2.2))]) (va_A [(hm, .inr (2, [.ref ho, .ref h1, .ref h2, .ref h3, .ref h4, .ref q_l, .ref q_m, .ref q_h, .int m_field, .int m_size, .int m_height, va_rf m_loaded])), (q_l, .inl (c_j, l_l, .inr (.inl g_l))), (q_m, .inl (c_j, l_m, .inr (.inl g_m))), (q_h, .inl (c_j, l_h, .inr (.inl g_h))), (r2, .inl (c_i, n_r, .inl g_r))] sz)) 0 0 (va_A [(hm, .inr (2, [.ref ho, .ref h1, .ref h2, .ref h3, .ref h4, .ref q_l, .ref q_m, .ref q_h, .int m_field, .int m_size, .int m_height, va_rf m_loaded])), (q_l, .inl (c_j, l_l, .inr (.inl g_l))), (q_m, .inl (c_j, l_m, .inr (.inl g_m))), (q_h, .inl (c_j, l_h, .inr (.inl g_h))), (r2, .inl (c_i, n_r, .inl g_r))] sz) := by
  refine Met.ofW (cc := prog_4_method_9_code) (maxL := 15) (ret := none) (by decide) rfl ?_
  intro p e s m args below meth c s₁ B hml hv
  obtain ⟨rfl, hsz, hP, hK, hD0, hN⟩ := hv
  have hx := B.exec
  have hb := B.bytes
  have hr := B.returns
  have htw : ∀ w ∈ px_all, w.before _ s = true := fun w h => atoms_spec (ws := px_s241) B.pre w (List.mem_cons_of_mem _ h)
  have hown : s.vm.findClass "MatroidDesk$Minors" = some m.cls := findClass_of_methodNamed B.named
  have hlocks := B.notSynchronized
  subst hsz
  have hD := hD0.self (sz := s.heap.size)
  generalize hAe : va_A [(hm, .inr (2, [.ref ho, .ref h1, .ref h2, .ref h3, .ref h4, .ref q_l, .ref q_m, .ref q_h, .int m_field, .int m_size, .int m_height, va_rf m_loaded])), (q_l, .inl (c_j, l_l, .inr (.inl g_l))), (q_m, .inl (c_j, l_m, .inr (.inl g_m))), (q_h, .inl (c_j, l_h, .inr (.inl g_h))), (r2, .inl (c_i, n_r, .inl g_r))] s.heap.size = A at hD ⊢
  have hA : ∀ q : Nat, s.heap.size ≤ q → A q := fun q h => by rw [← hAe]; exact Or.inr h
  have hS : va_S A s.heap s.heap [] := va_S.rf
  have hP : va_P (dC, dI) vwCl [(hm, .inr (2, [.ref ho, .ref h1, .ref h2, .ref h3, .ref h4, .ref q_l, .ref q_m, .ref q_h, .int m_field, .int m_size, .int m_height, va_rf m_loaded])), (q_l, .inl (c_j, l_l, .inr (.inl g_l))), (q_m, .inl (c_j, l_m, .inr (.inl g_m))), (q_h, .inl (c_j, l_h, .inr (.inl g_h))), (r2, .inl (c_i, n_r, .inl g_r))] s.heap := hP
  have hl := lv_entry ([.ref hm, .int a1x, .ref r2, .int a3x]) (n := 15) (Nat.le_of_ble_eq_true rfl)
  rw [lg_entry_eq]
  generalize (lg_sl ([.ref hm, .int a1x, .ref r2, .int a3x]) ++ List.replicate (15 - (lg_sl ([.ref hm, .int a1x, .ref r2, .int a3x])).length) Slot.unset).toArray = ls at hl ⊢
  have hl : lv_has ls 15 [(0, .ref hm), (1, .int a1x), (2, .ref r2), (3, .int a3x)] := hl
  generalize hQ : MQ _ _ _ _ _ _ _ = Q
  have S20 : ∀ (k20 : Nat) (x1 : Int32) (x3 : Int32) (x4 : Int64) (x6 : Int64) (x8 : Int64) (x10 : Int32) (x11 : Int32) (q_l : Nat) (q_m : Nat) (q_h : Nat) (l_l : Nat) (l_m : Nat) (l_h : Nat) (m_field : Int32) (m_size : Int32) (m_height : Int32) (m_loaded : Option Nat) (g_l : Nat → Int64) (g_m : Nat → Int64) (g_h : Nat → Int64) (g_r : Nat → Int32) (H : Heap) (locs : List Loc) (ls : Array Slot), va_P (dC, dI) vwCl [(hm, .inr (2, [.ref ho, .ref h1, .ref h2, .ref h3, .ref h4, .ref q_l, .ref q_m, .ref q_h, .int m_field, .int m_size, .int m_height, va_rf m_loaded])), (q_l, .inl (c_j, l_l, .inr (.inl g_l))), (q_m, .inl (c_j, l_m, .inr (.inl g_m))), (q_h, .inl (c_j, l_h, .inr (.inl g_h))), (r2, .inl (c_i, n_r, .inl g_r))] H → va_D A [(hm, .inr (2, [.ref ho, .ref h1, .ref h2, .ref h3, .ref h4, .ref q_l, .ref q_m, .ref q_h, .int m_field, .int m_size, .int m_height, va_rf m_loaded])), (q_l, .inl (c_j, l_l, .inr (.inl g_l))), (q_m, .inl (c_j, l_m, .inr (.inl g_m))), (q_h, .inl (c_j, l_h, .inr (.inl g_h))), (r2, .inl (c_i, n_r, .inl g_r))] → va_S A s.heap H locs → lv_has ls 15 [(0, .ref hm), (1, .int x1), (2, .ref r2), (3, .int x3), (4, .long x4), (6, .long x6), (8, .long x8), (10, .int x10), (11, .int x11)] → w241_L20 n_r post k20 x1 x3 x4 x6 x8 x10 x11 q_l q_m q_h l_l l_m l_h m_field m_size m_height m_loaded g_l g_m g_h g_r → W p l e (headSpec px_s241 ({ frames := 1, cells := 0, slots := 0, locals := 25 })).room s m ([.ref hm, .int a1x, .ref r2, .int a3x]).toArray below meth c H locs 0 0 Q (F0 m 20 ls []) := by
    intro k20
    induction k20 with
    | zero => intro x1 x3 x4 x6 x8 x10 x11 q_l q_m q_h l_l l_m l_h m_field m_size m_height m_loaded g_l g_m g_h g_r H locs ls hP hD hS hl hw; exact False.elim hw
    | succ k20 ih20 =>
      have S104 : ∀ (x1 : Int32) (x3 : Int32) (x4 : Int64) (x6 : Int64) (x8 : Int64) (x10 : Int32) (x11 : Int32) (q_l : Nat) (q_m : Nat) (q_h : Nat) (l_l : Nat) (l_m : Nat) (l_h : Nat) (m_field : Int32) (m_size : Int32) (m_height : Int32) (m_loaded : Option Nat) (g_l : Nat → Int64) (g_m : Nat → Int64) (g_h : Nat → Int64) (g_r : Nat → Int32) (H : Heap) (locs : List Loc) (ls : Array Slot), va_P (dC, dI) vwCl [(hm, .inr (2, [.ref ho, .ref h1, .ref h2, .ref h3, .ref h4, .ref q_l, .ref q_m, .ref q_h, .int m_field, .int m_size, .int m_height, va_rf m_loaded])), (q_l, .inl (c_j, l_l, .inr (.inl g_l))), (q_m, .inl (c_j, l_m, .inr (.inl g_m))), (q_h, .inl (c_j, l_h, .inr (.inl g_h))), (r2, .inl (c_i, n_r, .inl g_r))] H → va_D A [(hm, .inr (2, [.ref ho, .ref h1, .ref h2, .ref h3, .ref h4, .ref q_l, .ref q_m, .ref q_h, .int m_field, .int m_size, .int m_height, va_rf m_loaded])), (q_l, .inl (c_j, l_l, .inr (.inl g_l))), (q_m, .inl (c_j, l_m, .inr (.inl g_m))), (q_h, .inl (c_j, l_h, .inr (.inl g_h))), (r2, .inl (c_i, n_r, .inl g_r))] → va_S A s.heap H locs → lv_has ls 15 [(0, .ref hm), (1, .int x1), (2, .ref r2), (3, .int x3), (4, .long x4), (6, .long x6), (8, .long x8), (10, .int x10), (11, .int x11)] → w241_L104 (w241_L20 n_r post k20) n_r post x1 x3 x4 x6 x8 x10 x11 q_l q_m q_h l_l l_m l_h m_field m_size m_height m_loaded g_l g_m g_h g_r → W p l e (headSpec px_s241 ({ frames := 1, cells := 0, slots := 0, locals := 25 })).room s m ([.ref hm, .int a1x, .ref r2, .int a3x]).toArray below meth c H locs 0 0 Q (F0 m 104 ls []) := by
        intro x1 x3 x4 x6 x8 x10 x11 q_l q_m q_h l_l l_m l_h m_field m_size m_height m_loaded g_l g_m g_h g_r H locs ls hP hD hS hl hw
        unfold w241_L104 at hw
        obtain ⟨z1, ez1⟩ : ∃ y : Int32, y = x11 + (-1) := ⟨_, rfl⟩
        have hw := hw z1 ez1
        refine lv_iinc (v := z1) (lv' := [(11, .int z1), (0, .ref hm), (1, .int x1), (2, .ref r2), (3, .int x3), (4, .long x4), (6, .long x6), (8, .long x8), (10, .int x10)]) hx hb px_d241_104 hl (k := 8) rfl (by rw [ez1]; rfl) (by decide) rfl (fun ls hl => ?_)
        refine lv_goto (tgt := 20) hx hb px_d241_107 (by decide) ?_
        exact ih20 x1 x3 x4 x6 x8 x10 z1 q_l q_m q_h l_l l_m l_h m_field m_size m_height m_loaded g_l g_m g_h g_r H locs ls hP hD hS (lv_sub hl [1, 2, 3, 4, 5, 6, 7, 8, 0] rfl) hw
      intro x1 x3 x4 x6 x8 x10 x11 q_l q_m q_h l_l l_m l_h m_field m_size m_height m_loaded g_l g_m g_h g_r H locs ls hP hD hS hl hw
      unfold w241_L20 at hw
      refine lv_iload hx hb px_d241_20 (lv_at hl 8 rfl) ?_
      refine lv_if_lt (tgt := 110) hx hb px_d241_22 (by decide) (fun c22 => ?_) (fun c22 => ?_)
      · have hw := hw.1 c22
        refine lv_aload_n hx hb px_d241_110 rfl (lv_at hl 0 rfl) ?_
        refine va_get (D := (dC, dI)) (ci := 2) (v := .int m_field) (C := "MatroidDesk$Minors") (T := px_T2) (N := 12) hx hb htw px_in2 hown hK hP 0 rfl rfl 8 (by decide) (htw _ px_w1030) (fun _ h9 => h9) rfl px_d241_111 ?_
        refine lv_if_eq (tgt := 134) hx hb px_d241_114 (by decide) (fun c114 => ?_) (fun c114 => ?_)
        · have hw := hw.1 c114
          refine lv_lload hx hb px_d241_134 (lv_at hl 5 rfl) ?_
          refine lv_lload hx hb px_d241_136 (lv_at hl 4 rfl) ?_
          refine lv_bipush (v := 48) hx hb px_d241_138 (by decide) ?_
          refine lv_lshr (v := (x4 : Int64) >>> ((48 : Int32).toInt64 &&& 63)) hx hb px_d241_140 rfl ?_
          refine lv_ladd hx hb px_d241_141 ?_
          refine lv_topl (fun z2 ez2 => ?_)
          have hw := hw z2 ez2
          refine lv_lstore (lv' := [(6, .long z2), (0, .ref hm), (1, .int x1), (2, .ref r2), (3, .int x3), (4, .long x4), (8, .long x8), (10, .int x10), (11, .int x11)]) hx hb px_d241_142 hl (by decide) rfl (fun ls hl => ?_)
          refine lv_aload_n hx hb px_d241_144 rfl (lv_at hl 1 rfl) ?_
          refine va_get (D := (dC, dI)) (ci := 2) (v := .ref q_l) (C := "MatroidDesk$Minors") (T := px_T2) (N := 12) hx hb htw px_in2 hown hK hP 0 rfl rfl 5 (by decide) (htw _ px_w205) (fun _ h9 => h9) rfl px_d241_145 ?_
          refine lv_iload_n hx hb px_d241_148 rfl (lv_at hl 2 rfl) ?_
          refine lv_lload hx hb px_d241_149 (lv_at hl 5 rfl) ?_
          refine lv_ldc2 hx hb (own := "MatroidDesk$Minors") (index := 165) (v := 281474976710655) hown (htw _ px_w1246) px_d241_151 ?_
          refine lv_land hx hb px_d241_154 ?_
          refine lv_topl (fun z3 ez3 => ?_)
          have hw := hw z3 ez3
          obtain ⟨hi155, hw⟩ := hw
          refine va_last hx hb hK hP hD hS 1 0 rfl rfl hi155 px_d241_155 (fun H locs hP hD hS => ?_)
          have hP : va_P (dC, dI) vwCl [(hm, .inr (2, [.ref ho, .ref h1, .ref h2, .ref h3, .ref h4, .ref q_l, .ref q_m, .ref q_h, .int m_field, .int m_size, .int m_height, va_rf m_loaded])), (q_l, .inl (c_j, l_l, .inr (.inl (vp_updL g_l (Int32.toNatClampNeg x1) z3)))), (q_m, .inl (c_j, l_m, .inr (.inl g_m))), (q_h, .inl (c_j, l_h, .inr (.inl g_h))), (r2, .inl (c_i, n_r, .inl g_r))] H := hP
          have hD : va_D A [(hm, .inr (2, [.ref ho, .ref h1, .ref h2, .ref h3, .ref h4, .ref q_l, .ref q_m, .ref q_h, .int m_field, .int m_size, .int m_height, va_rf m_loaded])), (q_l, .inl (c_j, l_l, .inr (.inl (vp_updL g_l (Int32.toNatClampNeg x1) z3)))), (q_m, .inl (c_j, l_m, .inr (.inl g_m))), (q_h, .inl (c_j, l_h, .inr (.inl g_h))), (r2, .inl (c_i, n_r, .inl g_r))] := hD
          refine lv_aload_n hx hb px_d241_156 rfl (lv_at hl 1 rfl) ?_
          refine va_get (D := (dC, dI)) (ci := 2) (v := .ref q_m) (C := "MatroidDesk$Minors") (T := px_T2) (N := 12) hx hb htw px_in2 hown hK hP 0 rfl rfl 6 (by decide) (htw _ px_w206) (fun _ h9 => h9) rfl px_d241_157 ?_
          refine lv_iload_n hx hb px_d241_160 rfl (lv_at hl 2 rfl) ?_
          refine lv_lload hx hb px_d241_161 (lv_at hl 0 rfl) ?_
          refine lv_ldc2 hx hb (own := "MatroidDesk$Minors") (index := 165) (v := 281474976710655) hown (htw _ px_w1246) px_d241_163 ?_
          refine lv_land hx hb px_d241_166 ?_
          refine lv_topl (fun z4 ez4 => ?_)
          have hw := hw z4 ez4
          obtain ⟨hi167, hw⟩ := hw
          refine va_last hx hb hK hP hD hS 2 0 rfl rfl hi167 px_d241_167 (fun H locs hP hD hS => ?_)
          have hP : va_P (dC, dI) vwCl [(hm, .inr (2, [.ref ho, .ref h1, .ref h2, .ref h3, .ref h4, .ref q_l, .ref q_m, .ref q_h, .int m_field, .int m_size, .int m_height, va_rf m_loaded])), (q_l, .inl (c_j, l_l, .inr (.inl (vp_updL g_l (Int32.toNatClampNeg x1) z3)))), (q_m, .inl (c_j, l_m, .inr (.inl (vp_updL g_m (Int32.toNatClampNeg x1) z4)))), (q_h, .inl (c_j, l_h, .inr (.inl g_h))), (r2, .inl (c_i, n_r, .inl g_r))] H := hP
          have hD : va_D A [(hm, .inr (2, [.ref ho, .ref h1, .ref h2, .ref h3, .ref h4, .ref q_l, .ref q_m, .ref q_h, .int m_field, .int m_size, .int m_height, va_rf m_loaded])), (q_l, .inl (c_j, l_l, .inr (.inl (vp_updL g_l (Int32.toNatClampNeg x1) z3)))), (q_m, .inl (c_j, l_m, .inr (.inl (vp_updL g_m (Int32.toNatClampNeg x1) z4)))), (q_h, .inl (c_j, l_h, .inr (.inl g_h))), (r2, .inl (c_i, n_r, .inl g_r))] := hD
          refine lv_aload_n hx hb px_d241_168 rfl (lv_at hl 1 rfl) ?_
          refine va_get (D := (dC, dI)) (ci := 2) (v := .ref q_h) (C := "MatroidDesk$Minors") (T := px_T2) (N := 12) hx hb htw px_in2 hown hK hP 0 rfl rfl 7 (by decide) (htw _ px_w207) (fun _ h9 => h9) rfl px_d241_169 ?_
          refine lv_iload_n hx hb px_d241_172 rfl (lv_at hl 2 rfl) ?_
          refine lv_lload hx hb px_d241_173 (lv_at hl 6 rfl) ?_
          refine lv_lload hx hb px_d241_175 (lv_at hl 0 rfl) ?_
          refine lv_bipush (v := 48) hx hb px_d241_177 (by decide) ?_
          refine lv_lshr (v := (z2 : Int64) >>> ((48 : Int32).toInt64 &&& 63)) hx hb px_d241_179 rfl ?_
          refine lv_ladd hx hb px_d241_180 ?_
          refine lv_topl (fun z5 ez5 => ?_)
          have hw := hw z5 ez5
          obtain ⟨hi181, hw⟩ := hw
          refine va_last hx hb hK hP hD hS 3 0 rfl rfl hi181 px_d241_181 (fun H locs hP hD hS => ?_)
          have hP : va_P (dC, dI) vwCl [(hm, .inr (2, [.ref ho, .ref h1, .ref h2, .ref h3, .ref h4, .ref q_l, .ref q_m, .ref q_h, .int m_field, .int m_size, .int m_height, va_rf m_loaded])), (q_l, .inl (c_j, l_l, .inr (.inl (vp_updL g_l (Int32.toNatClampNeg x1) z3)))), (q_m, .inl (c_j, l_m, .inr (.inl (vp_updL g_m (Int32.toNatClampNeg x1) z4)))), (q_h, .inl (c_j, l_h, .inr (.inl (vp_updL g_h (Int32.toNatClampNeg x1) z5)))), (r2, .inl (c_i, n_r, .inl g_r))] H := hP
          have hD : va_D A [(hm, .inr (2, [.ref ho, .ref h1, .ref h2, .ref h3, .ref h4, .ref q_l, .ref q_m, .ref q_h, .int m_field, .int m_size, .int m_height, va_rf m_loaded])), (q_l, .inl (c_j, l_l, .inr (.inl (vp_updL g_l (Int32.toNatClampNeg x1) z3)))), (q_m, .inl (c_j, l_m, .inr (.inl (vp_updL g_m (Int32.toNatClampNeg x1) z4)))), (q_h, .inl (c_j, l_h, .inr (.inl (vp_updL g_h (Int32.toNatClampNeg x1) z5)))), (r2, .inl (c_i, n_r, .inl g_r))] := hD
          rw [← hQ]
          exact W.vret hx hb hr (fun t ht hW => ⟨⟨(q_l, q_m, q_h, l_l, l_m, l_h, m_field, m_size, m_height, m_loaded, vp_updL g_l (Int32.toNatClampNeg x1) z3, vp_updL g_m (Int32.toNatClampNeg x1) z4, vp_updL g_h (Int32.toNatClampNeg x1) z5, g_r), rfl, hw, by rw [ht]; exact hP, va_K.moved hW.alike hK, hD⟩, hS.F ht⟩) hS.2.2 px_d241_182
        · have hw := hw.2 c114
          refine lv_aload_n hx hb px_d241_117 rfl (lv_at hl 0 rfl) ?_
          refine va_get (D := (dC, dI)) (ci := 2) (v := .ref q_l) (C := "MatroidDesk$Minors") (T := px_T2) (N := 12) hx hb htw px_in2 hown hK hP 0 rfl rfl 5 (by decide) (htw _ px_w205) (fun _ h9 => h9) rfl px_d241_118 ?_
          refine lv_iload_n hx hb px_d241_121 rfl (lv_at hl 1 rfl) ?_
          refine lv_lload hx hb px_d241_122 (lv_at hl 4 rfl) ?_
          refine lv_aload_n hx hb px_d241_124 rfl (lv_at hl 0 rfl) ?_
          refine va_get (D := (dC, dI)) (ci := 2) (v := .int m_field) (C := "MatroidDesk$Minors") (T := px_T2) (N := 12) hx hb htw px_in2 hown hK hP 0 rfl rfl 8 (by decide) (htw _ px_w1030) (fun _ h9 => h9) rfl px_d241_125 ?_
          refine lv_i2l (v := m_field.toInt64) hx hb px_d241_128 rfl ?_
          have hPc := hP.sub (ws' := []) [] rfl
          have hDc := hD.sub (ws' := []) [] (by decide) rfl
          have hKc := hK.sub (tys' := []) [] rfl
          have hFc := va_free (wc := []) hD hS hA [] rfl
          refine va_calll (va_runS (As := [.long x4, .long m_field.toInt64]) (rest := [.int x1, .ref q_l]) ⟨hx, hb, hml, hown, htw⟩ (w242_met l dC dI H.size x4 m_field.toInt64 _ hw) (va_cwS 2 htw (px_gs2 px_w1245 px_w1248 px_w1753 px_g242) rfl rfl rfl (by decide +kernel) ⟨Nat.le_of_ble_eq_true rfl, Nat.le_of_ble_eq_true rfl⟩) ⟨fun a U g mk q => by obtain ⟨q0, q1, qP, qK, qD, qN⟩ := q; exact ⟨q0, q1, qP, va_K.moved (u := U) (U := U.calling g mk a) (Vm.Alike.refl U.vm) qK, qD, qN.same rfl⟩, fun U hU hW => ⟨rfl, by rw [hU], by rw [hU]; exact hPc, va_K.moved hW.alike hKc, hDc.weaken (fun _ _ _ _ => trivial), hN.warm hW⟩⟩ rfl rfl hl.1 rfl (lv_room (Nat.le_of_ble_eq_true rfl)) px_d241_129 ⟨(Nat.le_of_ble_eq_true rfl), (Nat.le_of_ble_eq_true rfl)⟩) hS (fun q _ h => hFc q h) hFc (fun r129 u t H1 locs ht hvm hw hB hz1 hk1 hS => ?_)
          obtain ⟨hP1, hK1, hD1⟩ := hB
          rw [ht] at hP1
          have hK1 := va_K.moved hvm.symm hK1
          obtain ⟨hP, hD⟩ := va_join (wr := [(hm, .inr (2, [.ref ho, .ref h1, .ref h2, .ref h3, .ref h4, .ref q_l, .ref q_m, .ref q_h, .int m_field, .int m_size, .int m_height, va_rf m_loaded])), (q_l, .inl (c_j, l_l, .inr (.inl g_l))), (q_m, .inl (c_j, l_m, .inr (.inl g_m))), (q_h, .inl (c_j, l_h, .inr (.inl g_h))), (r2, .inl (c_i, n_r, .inl g_r))]) (w1 := []) hP hD [] [0, 1, 2, 3, 4] rfl rfl (by decide) (by decide) hk1 hFc hP1 hD1
          generalize H1 = H at hP hS ⊢
          have hP : va_P (dC, dI) vwCl [(hm, .inr (2, [.ref ho, .ref h1, .ref h2, .ref h3, .ref h4, .ref q_l, .ref q_m, .ref q_h, .int m_field, .int m_size, .int m_height, va_rf m_loaded])), (q_l, .inl (c_j, l_l, .inr (.inl g_l))), (q_m, .inl (c_j, l_m, .inr (.inl g_m))), (q_h, .inl (c_j, l_h, .inr (.inl g_h))), (r2, .inl (c_i, n_r, .inl g_r))] H := hP
          have hD : va_D A [(hm, .inr (2, [.ref ho, .ref h1, .ref h2, .ref h3, .ref h4, .ref q_l, .ref q_m, .ref q_h, .int m_field, .int m_size, .int m_height, va_rf m_loaded])), (q_l, .inl (c_j, l_l, .inr (.inl g_l))), (q_m, .inl (c_j, l_m, .inr (.inl g_m))), (q_h, .inl (c_j, l_h, .inr (.inl g_h))), (r2, .inl (c_i, n_r, .inl g_r))] := hD
          obtain ⟨hi132, hw⟩ := hw
          refine va_last hx hb hK hP hD hS 1 0 rfl rfl hi132 px_d241_132 (fun H locs hP hD hS => ?_)
          have hP : va_P (dC, dI) vwCl [(hm, .inr (2, [.ref ho, .ref h1, .ref h2, .ref h3, .ref h4, .ref q_l, .ref q_m, .ref q_h, .int m_field, .int m_size, .int m_height, va_rf m_loaded])), (q_l, .inl (c_j, l_l, .inr (.inl (vp_updL g_l (Int32.toNatClampNeg x1) r129)))), (q_m, .inl (c_j, l_m, .inr (.inl g_m))), (q_h, .inl (c_j, l_h, .inr (.inl g_h))), (r2, .inl (c_i, n_r, .inl g_r))] H := hP
          have hD : va_D A [(hm, .inr (2, [.ref ho, .ref h1, .ref h2, .ref h3, .ref h4, .ref q_l, .ref q_m, .ref q_h, .int m_field, .int m_size, .int m_height, va_rf m_loaded])), (q_l, .inl (c_j, l_l, .inr (.inl (vp_updL g_l (Int32.toNatClampNeg x1) r129)))), (q_m, .inl (c_j, l_m, .inr (.inl g_m))), (q_h, .inl (c_j, l_h, .inr (.inl g_h))), (r2, .inl (c_i, n_r, .inl g_r))] := hD
          rw [← hQ]
          exact W.vret hx hb hr (fun t ht hW => ⟨⟨(q_l, q_m, q_h, l_l, l_m, l_h, m_field, m_size, m_height, m_loaded, vp_updL g_l (Int32.toNatClampNeg x1) r129, g_m, g_h, g_r), rfl, hw, by rw [ht]; exact hP, va_K.moved hW.alike hK, hD⟩, hS.F ht⟩) hS.2.2 px_d241_133
      · have hw := hw.2 c22
        refine lv_iload_n hx hb px_d241_25 rfl (lv_at hl 1 rfl) ?_
        refine lv_iload hx hb px_d241_26 (lv_at hl 8 rfl) ?_
        refine lv_ishr hx hb px_d241_28 ?_
        refine lv_iconst (v := 1) hx hb px_d241_29 (by decide) ?_
        refine lv_iand hx hb px_d241_30 ?_
        refine lv_if_eq (tgt := 104) hx hb px_d241_31 (by decide) (fun c31 => ?_) (fun c31 => ?_)
        · have hw := hw.1 c31
          exact S104 x1 x3 x4 x6 x8 x10 x11 q_l q_m q_h l_l l_m l_h m_field m_size m_height m_loaded g_l g_m g_h g_r H locs ls hP hD hS (lv_sub hl [0, 1, 2, 3, 4, 5, 6, 7, 8] rfl) hw
        · have hw := hw.2 c31
          refine lv_iload hx hb px_d241_34 (lv_at hl 7 rfl) ?_
          refine lv_aload_n hx hb px_d241_36 rfl (lv_at hl 2 rfl) ?_
          refine lv_iload_n hx hb px_d241_37 rfl (lv_at hl 3 rfl) ?_
          refine lv_iload hx hb px_d241_38 (lv_at hl 8 rfl) ?_
          refine lv_iadd hx hb px_d241_40 ?_
          obtain ⟨hi41, hw⟩ := hw
          refine va_iald hx hb hK hP 4 1 rfl rfl hi41 px_d241_41 ?_
          refine lv_imul hx hb px_d241_42 ?_
          refine lv_i2l (v := (x10 * (g_r (Int32.toNatClampNeg (x3 + x11)))).toInt64) hx hb px_d241_43 rfl ?_
          refine lv_topl (fun z6 ez6 => ?_)
          have hw := hw z6 ez6
          refine lv_lstore (lv' := [(12, .long z6), (0, .ref hm), (1, .int x1), (2, .ref r2), (3, .int x3), (4, .long x4), (6, .long x6), (8, .long x8), (10, .int x10), (11, .int x11)]) hx hb px_d241_44 hl (by decide) rfl (fun ls hl => ?_)
          refine lv_iload_n hx hb px_d241_46 rfl (lv_at hl 2 rfl) ?_
          refine lv_iconst (v := 1) hx hb px_d241_47 (by decide) ?_
          refine lv_iload hx hb px_d241_48 (lv_at hl 9 rfl) ?_
          refine lv_ishl hx hb px_d241_50 ?_
          refine lv_ixor hx hb px_d241_51 ?_
          refine lv_topi (fun z7 ez7 => ?_)
          have hw := hw z7 ez7
          refine lv_istore (lv' := [(14, .int z7), (12, .long z6), (0, .ref hm), (1, .int x1), (2, .ref r2), (3, .int x3), (4, .long x4), (6, .long x6), (8, .long x8), (10, .int x10), (11, .int x11)]) hx hb px_d241_52 hl (by decide) rfl (fun ls hl => ?_)
          refine lv_lload hx hb px_d241_54 (lv_at hl 6 rfl) ?_
          refine lv_lload hx hb px_d241_56 (lv_at hl 1 rfl) ?_
          refine lv_aload_n hx hb px_d241_58 rfl (lv_at hl 2 rfl) ?_
          refine va_get (D := (dC, dI)) (ci := 2) (v := .ref q_l) (C := "MatroidDesk$Minors") (T := px_T2) (N := 12) hx hb htw px_in2 hown hK hP 0 rfl rfl 5 (by decide) (htw _ px_w205) (fun _ h9 => h9) rfl px_d241_59 ?_
          refine lv_iload hx hb px_d241_62 (lv_at hl 0 rfl) ?_
          obtain ⟨hi64, hw⟩ := hw
          refine va_lald hx hb hK hP 1 0 rfl rfl hi64 px_d241_64 ?_
          refine lv_lmul hx hb px_d241_65 ?_
          refine lv_ladd hx hb px_d241_66 ?_
          refine lv_topl (fun z8 ez8 => ?_)
          have hw := hw z8 ez8
          refine lv_lstore (lv' := [(4, .long z8), (14, .int z7), (12, .long z6), (0, .ref hm), (1, .int x1), (2, .ref r2), (3, .int x3), (6, .long x6), (8, .long x8), (10, .int x10), (11, .int x11)]) hx hb px_d241_67 hl (by decide) rfl (fun ls hl => ?_)
          refine lv_lload hx hb px_d241_69 (lv_at hl 7 rfl) ?_
          refine lv_lload hx hb px_d241_71 (lv_at hl 2 rfl) ?_
          refine lv_aload_n hx hb px_d241_73 rfl (lv_at hl 3 rfl) ?_
          refine va_get (D := (dC, dI)) (ci := 2) (v := .ref q_m) (C := "MatroidDesk$Minors") (T := px_T2) (N := 12) hx hb htw px_in2 hown hK hP 0 rfl rfl 6 (by decide) (htw _ px_w206) (fun _ h9 => h9) rfl px_d241_74 ?_
          refine lv_iload hx hb px_d241_77 (lv_at hl 1 rfl) ?_
          obtain ⟨hi79, hw⟩ := hw
          refine va_lald hx hb hK hP 2 0 rfl rfl hi79 px_d241_79 ?_
          refine lv_lmul hx hb px_d241_80 ?_
          refine lv_ladd hx hb px_d241_81 ?_
          refine lv_topl (fun z9 ez9 => ?_)
          have hw := hw z9 ez9
          refine lv_lstore (lv' := [(6, .long z9), (4, .long z8), (14, .int z7), (12, .long z6), (0, .ref hm), (1, .int x1), (2, .ref r2), (3, .int x3), (8, .long x8), (10, .int x10), (11, .int x11)]) hx hb px_d241_82 hl (by decide) rfl (fun ls hl => ?_)
          refine lv_lload hx hb px_d241_84 (lv_at hl 8 rfl) ?_
          refine lv_lload hx hb px_d241_86 (lv_at hl 3 rfl) ?_
          refine lv_aload_n hx hb px_d241_88 rfl (lv_at hl 4 rfl) ?_
          refine va_get (D := (dC, dI)) (ci := 2) (v := .ref q_h) (C := "MatroidDesk$Minors") (T := px_T2) (N := 12) hx hb htw px_in2 hown hK hP 0 rfl rfl 7 (by decide) (htw _ px_w207) (fun _ h9 => h9) rfl px_d241_89 ?_
          refine lv_iload hx hb px_d241_92 (lv_at hl 2 rfl) ?_
          obtain ⟨hi94, hw⟩ := hw
          refine va_lald hx hb hK hP 3 0 rfl rfl hi94 px_d241_94 ?_
          refine lv_lmul hx hb px_d241_95 ?_
          refine lv_ladd hx hb px_d241_96 ?_
          refine lv_topl (fun z10 ez10 => ?_)
          have hw := hw z10 ez10
          refine lv_lstore (lv' := [(8, .long z10), (6, .long z9), (4, .long z8), (14, .int z7), (12, .long z6), (0, .ref hm), (1, .int x1), (2, .ref r2), (3, .int x3), (10, .int x10), (11, .int x11)]) hx hb px_d241_97 hl (by decide) rfl (fun ls hl => ?_)
          refine lv_iload hx hb px_d241_99 (lv_at hl 9 rfl) ?_
          refine lv_ineg hx hb px_d241_101 ?_
          refine lv_topi (fun z11 ez11 => ?_)
          have hw := hw z11 ez11
          refine lv_istore (lv' := [(10, .int z11), (8, .long z10), (6, .long z9), (4, .long z8), (14, .int z7), (12, .long z6), (0, .ref hm), (1, .int x1), (2, .ref r2), (3, .int x3), (11, .int x11)]) hx hb px_d241_102 hl (by decide) rfl (fun ls hl => ?_)
          exact S104 x1 x3 z8 z9 z10 z11 x11 q_l q_m q_h l_l l_m l_h m_field m_size m_height m_loaded g_l g_m g_h g_r H locs ls hP hD hS (lv_sub hl [6, 7, 8, 9, 3, 2, 1, 0, 10] rfl) hw
  unfold w241_wp at hw
  have hS0 := hS
  obtain ⟨H, hH9⟩ : ∃ z, z = s.heap := ⟨_, rfl⟩
  have hP : va_P (dC, dI) vwCl [(hm, .inr (2, [.ref ho, .ref h1, .ref h2, .ref h3, .ref h4, .ref q_l, .ref q_m, .ref q_h, .int m_field, .int m_size, .int m_height, va_rf m_loaded])), (q_l, .inl (c_j, l_l, .inr (.inl g_l))), (q_m, .inl (c_j, l_m, .inr (.inl g_m))), (q_h, .inl (c_j, l_h, .inr (.inl g_h))), (r2, .inl (c_i, n_r, .inl g_r))] H := by rw [hH9]; exact hP
  obtain ⟨locs, hlo9⟩ : ∃ z : List Loc, z = [] := ⟨_, rfl⟩
  have hS : va_S A s.heap H locs := by rw [hH9, hlo9]; exact hS
  suffices hG : W p l e (headSpec px_s241 ({ frames := 1, cells := 0, slots := 0, locals := 25 })).room s m ([.ref hm, .int a1x, .ref r2, .int a3x]).toArray below meth c H locs 0 0 Q (F0 m 0 ls []) by rw [hH9, hlo9] at hG; exact hG
  refine lv_lconst (v := 0) hx hb px_d241_0 (by decide) ?_
  refine lv_lstore (lv' := [(4, .long 0), (0, .ref hm), (1, .int a1x), (2, .ref r2), (3, .int a3x)]) hx hb px_d241_1 hl (by decide) rfl (fun ls hl => ?_)
  refine lv_lconst (v := 0) hx hb px_d241_3 (by decide) ?_
  refine lv_lstore (lv' := [(6, .long 0), (4, .long 0), (0, .ref hm), (1, .int a1x), (2, .ref r2), (3, .int a3x)]) hx hb px_d241_4 hl (by decide) rfl (fun ls hl => ?_)
  refine lv_lconst (v := 0) hx hb px_d241_6 (by decide) ?_
  refine lv_lstore (lv' := [(8, .long 0), (6, .long 0), (4, .long 0), (0, .ref hm), (1, .int a1x), (2, .ref r2), (3, .int a3x)]) hx hb px_d241_7 hl (by decide) rfl (fun ls hl => ?_)
  refine lv_iconst (v := 1) hx hb px_d241_9 (by decide) ?_
  refine lv_istore (lv' := [(10, .int 1), (8, .long 0), (6, .long 0), (4, .long 0), (0, .ref hm), (1, .int a1x), (2, .ref r2), (3, .int a3x)]) hx hb px_d241_10 hl (by decide) rfl (fun ls hl => ?_)
  refine lv_aload_n hx hb px_d241_12 rfl (lv_at hl 4 rfl) ?_
  refine va_get (D := (dC, dI)) (ci := 2) (v := .int m_size) (C := "MatroidDesk$Minors") (T := px_T2) (N := 12) hx hb htw px_in2 hown hK hP 0 rfl rfl 9 (by decide) (htw _ px_w1031) (fun _ h9 => h9) rfl px_d241_13 ?_
  refine lv_iconst (v := 1) hx hb px_d241_16 (by decide) ?_
  refine lv_isub hx hb px_d241_17 ?_
  refine lv_topi (fun z12 ez12 => ?_)
  have hw := hw z12 ez12
  refine lv_istore (lv' := [(11, .int z12), (10, .int 1), (8, .long 0), (6, .long 0), (4, .long 0), (0, .ref hm), (1, .int a1x), (2, .ref r2), (3, .int a3x)]) hx hb px_d241_18 hl (by decide) rfl (fun ls hl => ?_)
  obtain ⟨k9, hw⟩ := hw
  exact S20 k9 a1x a3x 0 0 0 1 z12 q_l q_m q_h l_l l_m l_h m_field m_size m_height m_loaded g_l g_m g_h g_r H locs ls hP hD hS (lv_sub hl [5, 6, 7, 8, 4, 3, 2, 1, 0] rfl) hw

/-! MatroidDesk$Minors.addsRow([II)Z -/
def w238_L122 (n_r : Nat) (post : Int32 → Nat → Nat → Nat → Nat → Nat → Nat → Int32 → Int32 → Int32 → Option Nat → (Nat → Int64) → (Nat → Int64) → (Nat → Int64) → Nat → Nat → Int32 → (Nat → Int32) → (Nat → Int32) → (Nat → Int32) → Prop) (x2 : Int32) (x3 : Int32) (x4 : Int32) (x5 : Int32) (y0 : Int32) (y1 : Int32) (q_l : Nat) (q_m : Nat) (q_h : Nat) (l_l : Nat) (l_m : Nat) (l_h : Nat) (m_field : Int32) (m_size : Int32) (m_height : Int32) (m_loaded : Option Nat) (g_l : Nat → Int64) (g_m : Nat → Int64) (g_h : Nat → Int64) (q_o : Nat) (l_o : Nat) (o_reached : Int32) (g_o : Nat → Int32) (g_t : Nat → Int32) (g_r : Nat → Int32) : Prop := ∀ z1 : Int32, z1 = y1 + y0 → narrow .boolean (.int x3) = .int x3 ∧ post x3 q_l q_m q_h l_l l_m l_h m_field m_size z1 m_loaded g_l g_m g_h q_o l_o o_reached g_o g_t g_r
def w238_L101 (K53 : Int32 → Int32 → Int32 → Int32 → Nat → Nat → Nat → Nat → Nat → Nat → Int32 → Int32 → Int32 → Option Nat → (Nat → Int64) → (Nat → Int64) → (Nat → Int64) → Nat → Nat → Int32 → (Nat → Int32) → (Nat → Int32) → (Nat → Int32) → Prop) (n_r : Nat) (post : Int32 → Nat → Nat → Nat → Nat → Nat → Nat → Int32 → Int32 → Int32 → Option Nat → (Nat → Int64) → (Nat → Int64) → (Nat → Int64) → Nat → Nat → Int32 → (Nat → Int32) → (Nat → Int32) → (Nat → Int32) → Prop) (x2 : Int32) (x3 : Int32) (x4 : Int32) (x5 : Int32) (x6 : Int32) (y0 : Int32) (q_l : Nat) (q_m : Nat) (q_h : Nat) (l_l : Nat) (l_m : Nat) (l_h : Nat) (m_field : Int32) (m_size : Int32) (m_height : Int32) (m_loaded : Option Nat) (g_l : Nat → Int64) (g_m : Nat → Int64) (g_h : Nat → Int64) (q_o : Nat) (l_o : Nat) (o_reached : Int32) (g_o : Nat → Int32) (g_t : Nat → Int32) (g_r : Nat → Int32) : Prop := ∀ z2 : Int32, z2 = x5 + 1 → K53 x2 y0 x4 z2 q_l q_m q_h l_l l_m l_h m_field m_size m_height m_loaded g_l g_m g_h q_o l_o o_reached g_o g_t g_r
def w238_L96 (K53 : Int32 → Int32 → Int32 → Int32 → Nat → Nat → Nat → Nat → Nat → Nat → Int32 → Int32 → Int32 → Option Nat → (Nat → Int64) → (Nat → Int64) → (Nat → Int64) → Nat → Nat → Int32 → (Nat → Int32) → (Nat → Int32) → (Nat → Int32) → Prop) (n_r : Nat) (post : Int32 → Nat → Nat → Nat → Nat → Nat → Nat → Int32 → Int32 → Int32 → Option Nat → (Nat → Int64) → (Nat → Int64) → (Nat → Int64) → Nat → Nat → Int32 → (Nat → Int32) → (Nat → Int32) → (Nat → Int32) → Prop) (x2 : Int32) (x3 : Int32) (x4 : Int32) (x5 : Int32) (x6 : Int32) (q_l : Nat) (q_m : Nat) (q_h : Nat) (l_l : Nat) (l_m : Nat) (l_h : Nat) (m_field : Int32) (m_size : Int32) (m_height : Int32) (m_loaded : Option Nat) (g_l : Nat → Int64) (g_m : Nat → Int64) (g_h : Nat → Int64) (q_o : Nat) (l_o : Nat) (o_reached : Int32) (g_o : Nat → Int32) (g_t : Nat → Int32) (g_r : Nat → Int32) : Prop := w238_L101 K53 n_r post x2 x3 x4 x5 x6 1 q_l q_m q_h l_l l_m l_h m_field m_size m_height m_loaded g_l g_m g_h q_o l_o o_reached g_o g_t g_r
def w238_L53 (n_r : Nat) (post : Int32 → Nat → Nat → Nat → Nat → Nat → Nat → Int32 → Int32 → Int32 → Option Nat → (Nat → Int64) → (Nat → Int64) → (Nat → Int64) → Nat → Nat → Int32 → (Nat → Int32) → (Nat → Int32) → (Nat → Int32) → Prop) : Nat → Int32 → Int32 → Int32 → Int32 → Nat → Nat → Nat → Nat → Nat → Nat → Int32 → Int32 → Int32 → Option Nat → (Nat → Int64) → (Nat → Int64) → (Nat → Int64) → Nat → Nat → Int32 → (Nat → Int32) → (Nat → Int32) → (Nat → Int32) → Prop
  | 0 => fun _ _ _ _ _ _ _ _ _ _ _ _ _ _ _ _ _ _ _ _ _ _ _ => False
  | k + 1 => fun x2 x3 x4 x5 q_l q_m q_h l_l l_m l_h m_field m_size m_height m_loaded g_l g_m g_h q_o l_o o_reached g_o g_t g_r => (x4 ≤ x5 → (x3 = 0 → w238_L122 n_r post x2 x3 x4 x5 0 m_height q_l q_m q_h l_l l_m l_h m_field m_size m_height m_loaded g_l g_m g_h q_o l_o o_reached g_o g_t g_r) ∧ (¬ x3 = 0 → w238_L122 n_r post x2 x3 x4 x5 1 m_height q_l q_m q_h l_l l_m l_h m_field m_size m_height m_loaded g_l g_m g_h q_o l_o o_reached g_o g_t g_r)) ∧ (¬ x4 ≤ x5 → w240_wp (fun r70 v3 v4 v5 v6 v7 => w241_wp n_r (fun v8 v9 v10 v11 v12 v13 v14 v15 v16 v17 v18 v19 v20 v21 => (¬ x3 = 0 → w238_L96 (w238_L53 n_r post k) n_r post x2 x3 x4 x5 r70 v8 v9 v10 v11 v12 v13 v14 v15 v16 v17 v18 v19 v20 v3 v4 v5 v6 v7 v21) ∧ (x3 = 0 → w243_wp (fun r90 v22 v23 v24 v25 v26 v27 v28 v29 v30 v31 v32 v33 v34 => (r90 = 0 → w238_L101 (w238_L53 n_r post k) n_r post x2 x3 x4 x5 r70 0 v22 v23 v24 v25 v26 v27 v28 v29 v30 v31 v32 v33 v34 v3 v4 v5 v6 v7 v21) ∧ (¬ r90 = 0 → w238_L96 (w238_L53 n_r post k) n_r post x2 x3 x4 x5 r70 v22 v23 v24 v25 v26 v27 v28 v29 v30 v31 v32 v33 v34 v3 v4 v5 v6 v7 v21)) r70 v8 v9 v10 v11 v12 v13 v14 v15 v16 v17 v18 v19 v20)) r70 x2 q_l q_m q_h l_l l_m l_h m_field m_size m_height m_loaded g_l g_m g_h g_r) m_size x5 q_o l_o o_reached g_o g_t)
def w238_wp (n_r : Nat) (post : Int32 → Nat → Nat → Nat → Nat → Nat → Nat → Int32 → Int32 → Int32 → Option Nat → (Nat → Int64) → (Nat → Int64) → (Nat → Int64) → Nat → Nat → Int32 → (Nat → Int32) → (Nat → Int32) → (Nat → Int32) → Prop) (a2x : Int32) (q_l : Nat) (q_m : Nat) (q_h : Nat) (l_l : Nat) (l_m : Nat) (l_h : Nat) (m_field : Int32) (m_size : Int32) (m_height : Int32) (m_loaded : Option Nat) (g_l : Nat → Int64) (g_m : Nat → Int64) (g_h : Nat → Int64) (q_o : Nat) (l_o : Nat) (o_reached : Int32) (g_o : Nat → Int32) (g_t : Nat → Int32) (g_r : Nat → Int32) : Prop := (m_height < m_size → w239_wp (fun r29 v35 v36 v37 v38 v39 => w239_wp (fun r48 v40 v41 v42 v43 v44 => ∃ j53, w238_L53 n_r post j53 a2x 0 r29 r48 q_l q_m q_h l_l l_m l_h m_field m_size m_height m_loaded g_l g_m g_h v40 v41 v42 v43 v44 g_r) m_size (m_height + 1) v35 v36 v37 v38 v39) m_size (m_height + 2) q_o l_o o_reached g_o g_t) ∧ (¬ m_height < m_size → narrow .boolean (.int 0) = .int 0 ∧ post 0 q_l q_m q_h l_l l_m l_h m_field m_size m_height m_loaded g_l g_m g_h q_o l_o o_reached g_o g_t g_r)
set_option maxHeartbeats 8000000 in
set_option maxRecDepth 100000 in
theorem w238_met (l : Launch) (dC : Nat → ClassId) (dI : Nat → Nat → Nat) (sz : Nat) (hm : Nat) (ho : Nat) (h1 : Nat) (h2 : Nat) (h3 : Nat) (h4 : Nat) (c_j : ClassId) (c_i : ClassId) (q_t : Nat) (r1 : Nat) (n_r : Nat) (a2x : Int32) (q_l : Nat) (q_m : Nat) (q_h : Nat) (l_l : Nat) (l_m : Nat) (l_h : Nat) (m_field : Int32) (m_size : Int32) (m_height : Int32) (m_loaded : Option Nat) (g_l : Nat → Int64) (g_m : Nat → Int64) (g_h : Nat → Int64) (q_o : Nat) (l_o : Nat) (o_reached : Int32) (g_o : Nat → Int32) (g_t : Nat → Int32) (g_r : Nat → Int32) (post : Int32 → Nat → Nat → Nat → Nat → Nat → Nat → Int32 → Int32 → Int32 → Option Nat → (Nat → Int64) → (Nat → Int64) → (Nat → Int64) → Nat → Nat → Int32 → (Nat → Int32) → (Nat → Int32) → (Nat → Int32) → Prop) (hw : w238_wp n_r post a2x q_l q_m q_h l_l l_m l_h m_field m_size m_height m_loaded g_l g_m g_h q_o l_o o_reached g_o g_t g_r) : Met l px_y238 px_s238 ({ frames := 2, cells := 0, slots := 0, locals := 59 }) (va_Pc [.ref hm, .ref r1, .int a2x] (fun U => U.heap.size = sz ∧ va_P (dC, dI) vwCl [(hm, .inr (2, [.ref ho, .ref h1, .ref h2, .ref h3, .ref h4, .ref q_l, .ref q_m, .ref q_h, .int m_field, .int m_size, .int m_height, va_rf m_loaded])), (q_l, .inl (c_j, l_l, .inr (.inl g_l))), (q_m, .inl (c_j, l_m, .inr (.inl g_m))), (q_h, .inl (c_j, l_h, .inr (.inl g_h))), (ho, .inr (1, [.ref q_o, .ref q_t, .int o_reached])), (q_o, .inl (c_i, l_o, .inl g_o)), (q_t, .inl (c_i, 182, .inl g_t)), (r1, .inl (c_i, n_r, .inl g_r))] U.heap ∧ va_K (dC, dI) vwCl [(c_j, .long), (c_i, .int)] U ∧ va_D (fun _ => True) [(hm, .inr (2, [.ref ho, .ref h1, .ref h2, .ref h3, .ref h4, .ref q_l, .ref q_m, .ref q_h, .int m_field, .int m_size, .int m_height, va_rf m_loaded])), (q_l, .inl (c_j, l_l, .inr (.inl g_l))), (q_m, .inl (c_j, l_m, .inr (.inl g_m))), (q_h, .inl (c_j, l_h, .inr (.inl g_h))), (ho, .inr (1, [.ref q_o, .ref q_t, .int o_reached])), (q_o, .inl (c_i, l_o, .inl g_o)), (q_t, .inl (c_i, 182, .inl g_t)), (r1, .inl (c_i, n_r, .inl g_r))] ∧ px_N U)) (va_Qi (fun (r : Int32) (u : Nat × Nat × Nat × Nat × Nat × Nat × Int32 × Int32 × Int32 × Option Nat × (Nat → Int64) × (Nat → Int64) × (Nat → Int64) × Nat × Nat × Int32 × (Nat → Int32) × (Nat → Int32) × (Nat → Int32)) => post r u.1 u.2.1 u.2.2.1 u.2.2.2.1 u.2.2.2.2.1 u.2.2.2.2.2.1 u.2.2.2.2.2.2.1 u.2.2.2.2.2.2.2.1 u.2.2.2.2.2.2.2.2.1 u.2.2.2.2.2.2.2.2.2.1 u.2.2.2.2.2.2.2.2.2.2.1 u.2.2.2.2.2.2.2.2.2.2.2.1 u.2.2.2.2.2.2.2.2.2.2.2.2.1 u.2.2.2.2.2.2.2.2.2.2.2.2.2.1 u.2.2.2.2.2.2.2.2.2.2.2.2.2.2.1 u.2.2.2.2.2.2.2.2.2.2.2.2.2.2.2.1 u.2.2.2.2.2.2.2.2.2.2.2.2.2.2.2.2.1 u.2.2.2.2.2.2.2.2.2.2.2.2.2.2.2.2.2.1 u.2.2.2.2.2.2.2.2.2.2.2.2.2.2.2.2.2.2) (fun (u : Nat × Nat × Nat × Nat × Nat × Nat × Int32 × Int32 × Int32 × Option Nat × (Nat → Int64) × (Nat → Int64) × (Nat → Int64) × Nat × Nat × Int32 × (Nat → Int32) × (Nat → Int32) × (Nat → Int32)) (t : State) => va_P (dC, dI) vwCl [(hm, .inr (2, [.ref ho, .ref h1, .ref h2, .ref h3, .ref h4, .ref u.1, .ref u.2.1, .ref u.2.2.1, .int u.2.2.2.2.2.2.1, .int u.2.2.2.2.2.2.2.1, .int u.2.2.2.2.2.2.2.2.1, va_rf u.2.2.2.2.2.2.2.2.2.1])), (u.1, .inl (c_j, u.2.2.2.1, .inr (.inl u.2.2.2.2.2.2.2.2.2.2.1))), (u.2.1, .inl (c_j, u.2.2.2.2.1, .inr (.inl u.2.2.2.2.2.2.2.2.2.2.2.1))), (u.2.2.1, .inl (c_j, u.2.2.2.2.2.1, .inr (.inl u.2.2.2.2.2.2.2.2.2.2.2.2.1))), (ho, .inr (1, [.ref u.2.2.2.2.2.2.2.2.2.2.2.2.2.1, .ref q_t, .int u.2.2.2.2.2.2.2.2.2.2.2.2.2.2.2.1])), (u.2.2.2.2.2.2.2.2.2.2.2.2.2.1, .inl (c_i, u.2.2.2.2.2.2.2.2.2.2.2.2.2.2.1, .inl u.2.2.2.2.2.2.2.2.2.2.2.2.2.2.2.2.1)), (q_t, .inl (c_i, 182, .inl u.2.2.2.2.2.2.2.2.2.2.2.2.2.2.2.2.2.1)), (r1, .inl (c_i, n_r, .inl u.2.2.2.2.2.2.2.2.2.2.2.2.2.2.2.2.2.2))] t.heap ∧ va_K (dC, dI) vwCl [(c_j, .long), (c_i, .int)] t ∧ va_D (va_A [(hm, .inr (2, [.ref ho, .ref h1, .ref h2, .ref h3, .ref h4, .ref q_l, .ref q_m, .ref q_h, .int m_field, .int m_size, .int m_height, va_rf m_loaded])), (q_l, .inl (c_j, l_l, .inr (.inl g_l))), (q_m, .inl (c_j, l_m, .inr (.inl g_m))), (q_h, .inl (c_j, l_h, .inr (.inl g_h))), (ho, .inr (1, [.ref q_o, .ref q_t, .int o_reached])), (q_o, .inl (c_i, l_o, .inl g_o)), (q_t, .inl (c_i, 182, .inl g_t)), (r1, .inl (c_i, n_r, .inl g_r))] sz) [(hm, .inr (2, [.ref ho, .ref h1, .ref h2, .ref h3, .ref h4, .ref u.1, .ref u.2.1, .ref u.2.2.1, .int u.2.2.2.2.2.2.1, .int u.2.2.2.2.2.2.2.1, .int u.2.2.2.2.2.2.2.2.1, va_rf u.2.2.2.2.2.2.2.2.2.1])), (u.1, .inl (c_j, u.2.2.2.1, .inr (.inl u.2.2.2.2.2.2.2.2.2.2.1))), (u.2.1, .inl (c_j, u.2.2.2.2.1, .inr (.inl u.2.2.2.2.2.2.2.2.2.2.2.1))), (u.2.2.1, .inl (c_j, u.2.2.2.2.2.1, .inr (.inl u.2.2.2.2.2.2.2.2.2.2.2.2.1))), (ho, .inr (1, [.ref u.2.2.2.2.2.2.2.2.2.2.2.2.2.1, .ref q_t, .int u.2.2.2.2.2.2.2.2.2.2.2.2.2.2.2.1])), (u.2.2.2.2.2.2.2.2.2.2.2.2.2.1, .inl (c_i, u.2.2.2.2.2.2.2.2.2.2.2.2.2.2.1, .inl u.2.2.2.2.2.2.2.2.2.2.2.2.2.2.2.2.1)), (q_t, .inl (c_i, 182, .inl u.2.2.2.2.2.2.2.2.2.2.2.2.2.2.2.2.2.1)), (r1, .inl (c_i, n_r, .inl u.2.2.2.2.2.2.2.2.2.2.2.2.2.2.2.2.2.2))]) (va_A [(hm, .inr (2, [.ref ho, .ref h1, .ref h2, .ref h3, .ref h4, .ref q_l, .ref q_m, .ref q_h, .int m_field, .int m_size, .int m_height, va_rf m_loaded])), (q_l, .inl (c_j, l_l, .inr (.inl g_l))), (q_m, .inl (c_j, l_m, .inr (.inl g_m))), (q_h, .inl (c_j, l_h, .inr (.inl g_h))), (ho, .inr (1, [.ref q_o, .ref q_t, .int o_reached])), (q_o, .inl (c_i, l_o, .inl g_o)), (q_t, .inl (c_i, 182, .inl g_t)), (r1, .inl (c_i, n_r, .inl g_r))] sz)) 0 0 (va_A [(hm, .inr (2, [.ref ho, .ref h1, .ref h2, .ref h3, .ref h4, .ref q_l, .ref q_m, .ref q_h, .int m_field, .int m_size, .int m_height, va_rf m_loaded])), (q_l, .inl (c_j, l_l, .inr (.inl g_l))), (q_m, .inl (c_j, l_m, .inr (.inl g_m))), (q_h, .inl (c_j, l_h, .inr (.inl g_h))), (ho, .inr (1, [.ref q_o, .ref q_t, .int o_reached])), (q_o, .inl (c_i, l_o, .inl g_o)), (q_t, .inl (c_i, 182, .inl g_t)), (r1, .inl (c_i, n_r, .inl g_r))] sz) := by
  refine Met.ofW (cc := prog_4_method_8_code) (maxL := 7) (ret := (some .boolean)) (by decide) rfl ?_
  intro p e s m args below meth c s₁ B hml hv
  obtain ⟨rfl, hsz, hP, hK, hD0, hN⟩ := hv
  have hx := B.exec
  have hb := B.bytes
  have hr := B.returns
  have htw : ∀ w ∈ px_all, w.before _ s = true := fun w h => atoms_spec (ws := px_s238) B.pre w (List.mem_cons_of_mem _ h)
  have hown : s.vm.findClass "MatroidDesk$Minors" = some m.cls := findClass_of_methodNamed B.named
  have hlocks := B.notSynchronized
  subst hsz
  have hD := hD0.self (sz := s.heap.size)
  generalize hAe : va_A [(hm, .inr (2, [.ref ho, .ref h1, .ref h2, .ref h3, .ref h4, .ref q_l, .ref q_m, .ref q_h, .int m_field, .int m_size, .int m_height, va_rf m_loaded])), (q_l, .inl (c_j, l_l, .inr (.inl g_l))), (q_m, .inl (c_j, l_m, .inr (.inl g_m))), (q_h, .inl (c_j, l_h, .inr (.inl g_h))), (ho, .inr (1, [.ref q_o, .ref q_t, .int o_reached])), (q_o, .inl (c_i, l_o, .inl g_o)), (q_t, .inl (c_i, 182, .inl g_t)), (r1, .inl (c_i, n_r, .inl g_r))] s.heap.size = A at hD ⊢
  have hA : ∀ q : Nat, s.heap.size ≤ q → A q := fun q h => by rw [← hAe]; exact Or.inr h
  have hS : va_S A s.heap s.heap [] := va_S.rf
  have hP : va_P (dC, dI) vwCl [(hm, .inr (2, [.ref ho, .ref h1, .ref h2, .ref h3, .ref h4, .ref q_l, .ref q_m, .ref q_h, .int m_field, .int m_size, .int m_height, va_rf m_loaded])), (q_l, .inl (c_j, l_l, .inr (.inl g_l))), (q_m, .inl (c_j, l_m, .inr (.inl g_m))), (q_h, .inl (c_j, l_h, .inr (.inl g_h))), (ho, .inr (1, [.ref q_o, .ref q_t, .int o_reached])), (q_o, .inl (c_i, l_o, .inl g_o)), (q_t, .inl (c_i, 182, .inl g_t)), (r1, .inl (c_i, n_r, .inl g_r))] s.heap := hP
  have hl := lv_entry ([.ref hm, .ref r1, .int a2x]) (n := 7) (Nat.le_of_ble_eq_true rfl)
  rw [lg_entry_eq]
  generalize (lg_sl ([.ref hm, .ref r1, .int a2x]) ++ List.replicate (7 - (lg_sl ([.ref hm, .ref r1, .int a2x])).length) Slot.unset).toArray = ls at hl ⊢
  have hl : lv_has ls 7 [(0, .ref hm), (1, .ref r1), (2, .int a2x)] := hl
  generalize hQ : MQ _ _ _ _ _ _ _ = Q
  have S122 : ∀ (x2 : Int32) (x3 : Int32) (x4 : Int32) (x5 : Int32) (y0 : Int32) (y1 : Int32) (q_l : Nat) (q_m : Nat) (q_h : Nat) (l_l : Nat) (l_m : Nat) (l_h : Nat) (m_field : Int32) (m_size : Int32) (m_height : Int32) (m_loaded : Option Nat) (g_l : Nat → Int64) (g_m : Nat → Int64) (g_h : Nat → Int64) (q_o : Nat) (l_o : Nat) (o_reached : Int32) (g_o : Nat → Int32) (g_t : Nat → Int32) (g_r : Nat → Int32) (H : Heap) (locs : List Loc) (ls : Array Slot), va_P (dC, dI) vwCl [(hm, .inr (2, [.ref ho, .ref h1, .ref h2, .ref h3, .ref h4, .ref q_l, .ref q_m, .ref q_h, .int m_field, .int m_size, .int m_height, va_rf m_loaded])), (q_l, .inl (c_j, l_l, .inr (.inl g_l))), (q_m, .inl (c_j, l_m, .inr (.inl g_m))), (q_h, .inl (c_j, l_h, .inr (.inl g_h))), (ho, .inr (1, [.ref q_o, .ref q_t, .int o_reached])), (q_o, .inl (c_i, l_o, .inl g_o)), (q_t, .inl (c_i, 182, .inl g_t)), (r1, .inl (c_i, n_r, .inl g_r))] H → va_D A [(hm, .inr (2, [.ref ho, .ref h1, .ref h2, .ref h3, .ref h4, .ref q_l, .ref q_m, .ref q_h, .int m_field, .int m_size, .int m_height, va_rf m_loaded])), (q_l, .inl (c_j, l_l, .inr (.inl g_l))), (q_m, .inl (c_j, l_m, .inr (.inl g_m))), (q_h, .inl (c_j, l_h, .inr (.inl g_h))), (ho, .inr (1, [.ref q_o, .ref q_t, .int o_reached])), (q_o, .inl (c_i, l_o, .inl g_o)), (q_t, .inl (c_i, 182, .inl g_t)), (r1, .inl (c_i, n_r, .inl g_r))] → va_S A s.heap H locs → lv_has ls 7 [(0, .ref hm), (1, .ref r1), (2, .int x2), (3, .int x3), (4, .int x4), (5, .int x5)] → w238_L122 n_r post x2 x3 x4 x5 y0 y1 q_l q_m q_h l_l l_m l_h m_field m_size m_height m_loaded g_l g_m g_h q_o l_o o_reached g_o g_t g_r → W p l e (headSpec px_s238 ({ frames := 2, cells := 0, slots := 0, locals := 59 })).room s m ([.ref hm, .ref r1, .int a2x]).toArray below meth c H locs 0 0 Q (F0 m 122 ls [.int y0, .int y1, .ref hm]) := by
    intro x2 x3 x4 x5 y0 y1 q_l q_m q_h l_l l_m l_h m_field m_size m_height m_loaded g_l g_m g_h q_o l_o o_reached g_o g_t g_r H locs ls hP hD hS hl hw
    unfold w238_L122 at hw
    refine lv_iadd hx hb px_d238_122 ?_
    refine lv_topi (fun z1 ez1 => ?_)
    have hw := hw z1 ez1
    refine va_put (D := (dC, dI)) (ci := 2) (v := .int z1) (ty := .int) (C := "MatroidDesk$Minors") (T := px_T2) (N := 12) hx hb htw px_in2 px_ty2 px_tyok2 px_nm2 hown hK hP hD hS 0 rfl rfl 10 (by decide) (htw _ px_w1022) (fun _ h9 => h9) rfl (by decide +kernel) rfl rfl (Nat.le_of_ble_eq_true rfl) px_d238_123 (fun H locs hP hD hS => ?_)
    have hP : va_P (dC, dI) vwCl [(hm, .inr (2, [.ref ho, .ref h1, .ref h2, .ref h3, .ref h4, .ref q_l, .ref q_m, .ref q_h, .int m_field, .int m_size, .int z1, va_rf m_loaded])), (q_l, .inl (c_j, l_l, .inr (.inl g_l))), (q_m, .inl (c_j, l_m, .inr (.inl g_m))), (q_h, .inl (c_j, l_h, .inr (.inl g_h))), (ho, .inr (1, [.ref q_o, .ref q_t, .int o_reached])), (q_o, .inl (c_i, l_o, .inl g_o)), (q_t, .inl (c_i, 182, .inl g_t)), (r1, .inl (c_i, n_r, .inl g_r))] H := hP
    have hD : va_D A [(hm, .inr (2, [.ref ho, .ref h1, .ref h2, .ref h3, .ref h4, .ref q_l, .ref q_m, .ref q_h, .int m_field, .int m_size, .int z1, va_rf m_loaded])), (q_l, .inl (c_j, l_l, .inr (.inl g_l))), (q_m, .inl (c_j, l_m, .inr (.inl g_m))), (q_h, .inl (c_j, l_h, .inr (.inl g_h))), (ho, .inr (1, [.ref q_o, .ref q_t, .int o_reached])), (q_o, .inl (c_i, l_o, .inl g_o)), (q_t, .inl (c_i, 182, .inl g_t)), (r1, .inl (c_i, n_r, .inl g_r))] := hD
    refine lv_iload_n hx hb px_d238_126 rfl (lv_at hl 3 rfl) ?_
    obtain ⟨hz9, hw⟩ := hw
    rw [← hQ]
    exact W.zret (v := x3) hx hb hr hz9 (fun t ht hW => ⟨⟨x3, (q_l, q_m, q_h, l_l, l_m, l_h, m_field, m_size, z1, m_loaded, g_l, g_m, g_h, q_o, l_o, o_reached, g_o, g_t, g_r), rfl, hw, by rw [ht]; exact hP, va_K.moved hW.alike hK, hD⟩, hS.F ht⟩) hS.2.2 px_d238_127
  have S53 : ∀ (k53 : Nat) (x2 : Int32) (x3 : Int32) (x4 : Int32) (x5 : Int32) (q_l : Nat) (q_m : Nat) (q_h : Nat) (l_l : Nat) (l_m : Nat) (l_h : Nat) (m_field : Int32) (m_size : Int32) (m_height : Int32) (m_loaded : Option Nat) (g_l : Nat → Int64) (g_m : Nat → Int64) (g_h : Nat → Int64) (q_o : Nat) (l_o : Nat) (o_reached : Int32) (g_o : Nat → Int32) (g_t : Nat → Int32) (g_r : Nat → Int32) (H : Heap) (locs : List Loc) (ls : Array Slot), va_P (dC, dI) vwCl [(hm, .inr (2, [.ref ho, .ref h1, .ref h2, .ref h3, .ref h4, .ref q_l, .ref q_m, .ref q_h, .int m_field, .int m_size, .int m_height, va_rf m_loaded])), (q_l, .inl (c_j, l_l, .inr (.inl g_l))), (q_m, .inl (c_j, l_m, .inr (.inl g_m))), (q_h, .inl (c_j, l_h, .inr (.inl g_h))), (ho, .inr (1, [.ref q_o, .ref q_t, .int o_reached])), (q_o, .inl (c_i, l_o, .inl g_o)), (q_t, .inl (c_i, 182, .inl g_t)), (r1, .inl (c_i, n_r, .inl g_r))] H → va_D A [(hm, .inr (2, [.ref ho, .ref h1, .ref h2, .ref h3, .ref h4, .ref q_l, .ref q_m, .ref q_h, .int m_field, .int m_size, .int m_height, va_rf m_loaded])), (q_l, .inl (c_j, l_l, .inr (.inl g_l))), (q_m, .inl (c_j, l_m, .inr (.inl g_m))), (q_h, .inl (c_j, l_h, .inr (.inl g_h))), (ho, .inr (1, [.ref q_o, .ref q_t, .int o_reached])), (q_o, .inl (c_i, l_o, .inl g_o)), (q_t, .inl (c_i, 182, .inl g_t)), (r1, .inl (c_i, n_r, .inl g_r))] → va_S A s.heap H locs → lv_has ls 7 [(0, .ref hm), (1, .ref r1), (2, .int x2), (3, .int x3), (4, .int x4), (5, .int x5)] → w238_L53 n_r post k53 x2 x3 x4 x5 q_l q_m q_h l_l l_m l_h m_field m_size m_height m_loaded g_l g_m g_h q_o l_o o_reached g_o g_t g_r → W p l e (headSpec px_s238 ({ frames := 2, cells := 0, slots := 0, locals := 59 })).room s m ([.ref hm, .ref r1, .int a2x]).toArray below meth c H locs 0 0 Q (F0 m 53 ls []) := by
    intro k53
    induction k53 with
    | zero => intro x2 x3 x4 x5 q_l q_m q_h l_l l_m l_h m_field m_size m_height m_loaded g_l g_m g_h q_o l_o o_reached g_o g_t g_r H locs ls hP hD hS hl hw; exact False.elim hw
    | succ k53 ih53 =>
      have S101 : ∀ (x2 : Int32) (x3 : Int32) (x4 : Int32) (x5 : Int32) (x6 : Int32) (y0 : Int32) (q_l : Nat) (q_m : Nat) (q_h : Nat) (l_l : Nat) (l_m : Nat) (l_h : Nat) (m_field : Int32) (m_size : Int32) (m_height : Int32) (m_loaded : Option Nat) (g_l : Nat → Int64) (g_m : Nat → Int64) (g_h : Nat → Int64) (q_o : Nat) (l_o : Nat) (o_reached : Int32) (g_o : Nat → Int32) (g_t : Nat → Int32) (g_r : Nat → Int32) (H : Heap) (locs : List Loc) (ls : Array Slot), va_P (dC, dI) vwCl [(hm, .inr (2, [.ref ho, .ref h1, .ref h2, .ref h3, .ref h4, .ref q_l, .ref q_m, .ref q_h, .int m_field, .int m_size, .int m_height, va_rf m_loaded])), (q_l, .inl (c_j, l_l, .inr (.inl g_l))), (q_m, .inl (c_j, l_m, .inr (.inl g_m))), (q_h, .inl (c_j, l_h, .inr (.inl g_h))), (ho, .inr (1, [.ref q_o, .ref q_t, .int o_reached])), (q_o, .inl (c_i, l_o, .inl g_o)), (q_t, .inl (c_i, 182, .inl g_t)), (r1, .inl (c_i, n_r, .inl g_r))] H → va_D A [(hm, .inr (2, [.ref ho, .ref h1, .ref h2, .ref h3, .ref h4, .ref q_l, .ref q_m, .ref q_h, .int m_field, .int m_size, .int m_height, va_rf m_loaded])), (q_l, .inl (c_j, l_l, .inr (.inl g_l))), (q_m, .inl (c_j, l_m, .inr (.inl g_m))), (q_h, .inl (c_j, l_h, .inr (.inl g_h))), (ho, .inr (1, [.ref q_o, .ref q_t, .int o_reached])), (q_o, .inl (c_i, l_o, .inl g_o)), (q_t, .inl (c_i, 182, .inl g_t)), (r1, .inl (c_i, n_r, .inl g_r))] → va_S A s.heap H locs → lv_has ls 7 [(0, .ref hm), (1, .ref r1), (2, .int x2), (3, .int x3), (4, .int x4), (5, .int x5), (6, .int x6)] → w238_L101 (w238_L53 n_r post k53) n_r post x2 x3 x4 x5 x6 y0 q_l q_m q_h l_l l_m l_h m_field m_size m_height m_loaded g_l g_m g_h q_o l_o o_reached g_o g_t g_r → W p l e (headSpec px_s238 ({ frames := 2, cells := 0, slots := 0, locals := 59 })).room s m ([.ref hm, .ref r1, .int a2x]).toArray below meth c H locs 0 0 Q (F0 m 101 ls [.int y0]) := by
        intro x2 x3 x4 x5 x6 y0 q_l q_m q_h l_l l_m l_h m_field m_size m_height m_loaded g_l g_m g_h q_o l_o o_reached g_o g_t g_r H locs ls hP hD hS hl hw
        unfold w238_L101 at hw
        refine lv_istore_n (lv' := [(3, .int y0), (0, .ref hm), (1, .ref r1), (2, .int x2), (4, .int x4), (5, .int x5), (6, .int x6)]) hx hb px_d238_101 rfl hl (by decide) rfl (fun ls hl => ?_)
        obtain ⟨z2, ez2⟩ : ∃ y : Int32, y = x5 + 1 := ⟨_, rfl⟩
        have hw := hw z2 ez2
        refine lv_iinc (v := z2) (lv' := [(5, .int z2), (3, .int y0), (0, .ref hm), (1, .ref r1), (2, .int x2), (4, .int x4), (6, .int x6)]) hx hb px_d238_102 hl (k := 5) rfl (by rw [ez2]; rfl) (by decide) rfl (fun ls hl => ?_)
        refine lv_goto (tgt := 53) hx hb px_d238_105 (by decide) ?_
        exact ih53 x2 y0 x4 z2 q_l q_m q_h l_l l_m l_h m_field m_size m_height m_loaded g_l g_m g_h q_o l_o o_reached g_o g_t g_r H locs ls hP hD hS (lv_sub hl [2, 3, 4, 1, 5, 0] rfl) hw
      have S96 : ∀ (x2 : Int32) (x3 : Int32) (x4 : Int32) (x5 : Int32) (x6 : Int32) (q_l : Nat) (q_m : Nat) (q_h : Nat) (l_l : Nat) (l_m : Nat) (l_h : Nat) (m_field : Int32) (m_size : Int32) (m_height : Int32) (m_loaded : Option Nat) (g_l : Nat → Int64) (g_m : Nat → Int64) (g_h : Nat → Int64) (q_o : Nat) (l_o : Nat) (o_reached : Int32) (g_o : Nat → Int32) (g_t : Nat → Int32) (g_r : Nat → Int32) (H : Heap) (locs : List Loc) (ls : Array Slot), va_P (dC, dI) vwCl [(hm, .inr (2, [.ref ho, .ref h1, .ref h2, .ref h3, .ref h4, .ref q_l, .ref q_m, .ref q_h, .int m_field, .int m_size, .int m_height, va_rf m_loaded])), (q_l, .inl (c_j, l_l, .inr (.inl g_l))), (q_m, .inl (c_j, l_m, .inr (.inl g_m))), (q_h, .inl (c_j, l_h, .inr (.inl g_h))), (ho, .inr (1, [.ref q_o, .ref q_t, .int o_reached])), (q_o, .inl (c_i, l_o, .inl g_o)), (q_t, .inl (c_i, 182, .inl g_t)), (r1, .inl (c_i, n_r, .inl g_r))] H → va_D A [(hm, .inr (2, [.ref ho, .ref h1, .ref h2, .ref h3, .ref h4, .ref q_l, .ref q_m, .ref q_h, .int m_field, .int m_size, .int m_height, va_rf m_loaded])), (q_l, .inl (c_j, l_l, .inr (.inl g_l))), (q_m, .inl (c_j, l_m, .inr (.inl g_m))), (q_h, .inl (c_j, l_h, .inr (.inl g_h))), (ho, .inr (1, [.ref q_o, .ref q_t, .int o_reached])), (q_o, .inl (c_i, l_o, .inl g_o)), (q_t, .inl (c_i, 182, .inl g_t)), (r1, .inl (c_i, n_r, .inl g_r))] → va_S A s.heap H locs → lv_has ls 7 [(0, .ref hm), (1, .ref r1), (2, .int x2), (3, .int x3), (4, .int x4), (5, .int x5), (6, .int x6)] → w238_L96 (w238_L53 n_r post k53) n_r post x2 x3 x4 x5 x6 q_l q_m q_h l_l l_m l_h m_field m_size m_height m_loaded g_l g_m g_h q_o l_o o_reached g_o g_t g_r → W p l e (headSpec px_s238 ({ frames := 2, cells := 0, slots := 0, locals := 59 })).room s m ([.ref hm, .ref r1, .int a2x]).toArray below meth c H locs 0 0 Q (F0 m 96 ls []) := by
        intro x2 x3 x4 x5 x6 q_l q_m q_h l_l l_m l_h m_field m_size m_height m_loaded g_l g_m g_h q_o l_o o_reached g_o g_t g_r H locs ls hP hD hS hl hw
        unfold w238_L96 at hw
        refine lv_iconst (v := 1) hx hb px_d238_96 (by decide) ?_
        refine lv_goto (tgt := 101) hx hb px_d238_97 (by decide) ?_
        exact S101 x2 x3 x4 x5 x6 1 q_l q_m q_h l_l l_m l_h m_field m_size m_height m_loaded g_l g_m g_h q_o l_o o_reached g_o g_t g_r H locs ls hP hD hS (lv_sub hl [0, 1, 2, 3, 4, 5, 6] rfl) hw
      intro x2 x3 x4 x5 q_l q_m q_h l_l l_m l_h m_field m_size m_height m_loaded g_l g_m g_h q_o l_o o_reached g_o g_t g_r H locs ls hP hD hS hl hw
      unfold w238_L53 at hw
      refine lv_iload hx hb px_d238_53 (lv_at hl 5 rfl) ?_
      refine lv_iload hx hb px_d238_55 (lv_at hl 4 rfl) ?_
      refine lv_icmp_ge (tgt := 108) hx hb px_d238_57 (by decide) (fun c57 => ?_) (fun c57 => ?_)
      · have hw := hw.1 c57
        refine lv_aload_n hx hb px_d238_108 rfl (lv_at hl 0 rfl) ?_
        refine lv_dup hx hb px_d238_109 rfl ?_
        refine va_get (D := (dC, dI)) (ci := 2) (v := .int m_height) (C := "MatroidDesk$Minors") (T := px_T2) (N := 12) hx hb htw px_in2 hown hK hP 0 rfl rfl 10 (by decide) (htw _ px_w1022) (fun _ h9 => h9) rfl px_d238_110 ?_
        refine lv_iload_n hx hb px_d238_113 rfl (lv_at hl 3 rfl) ?_
        refine lv_if_eq (tgt := 121) hx hb px_d238_114 (by decide) (fun c114 => ?_) (fun c114 => ?_)
        · have hw := hw.1 c114
          refine lv_iconst (v := 0) hx hb px_d238_121 (by decide) ?_
          exact S122 x2 x3 x4 x5 0 m_height q_l q_m q_h l_l l_m l_h m_field m_size m_height m_loaded g_l g_m g_h q_o l_o o_reached g_o g_t g_r H locs ls hP hD hS (lv_sub hl [0, 1, 2, 3, 4, 5] rfl) hw
        · have hw := hw.2 c114
          refine lv_iconst (v := 1) hx hb px_d238_117 (by decide) ?_
          refine lv_goto (tgt := 122) hx hb px_d238_118 (by decide) ?_
          exact S122 x2 x3 x4 x5 1 m_height q_l q_m q_h l_l l_m l_h m_field m_size m_height m_loaded g_l g_m g_h q_o l_o o_reached g_o g_t g_r H locs ls hP hD hS (lv_sub hl [0, 1, 2, 3, 4, 5] rfl) hw
      · have hw := hw.2 c57
        refine lv_aload_n hx hb px_d238_60 rfl (lv_at hl 0 rfl) ?_
        refine va_get (D := (dC, dI)) (ci := 2) (v := .ref ho) (C := "MatroidDesk$Minors") (T := px_T2) (N := 12) hx hb htw px_in2 hown hK hP 0 rfl rfl 0 (by decide) (htw _ px_w199) (fun _ h9 => h9) rfl px_d238_61 ?_
        refine lv_aload_n hx hb px_d238_64 rfl (lv_at hl 0 rfl) ?_
        refine va_get (D := (dC, dI)) (ci := 2) (v := .int m_size) (C := "MatroidDesk$Minors") (T := px_T2) (N := 12) hx hb htw px_in2 hown hK hP 0 rfl rfl 9 (by decide) (htw _ px_w1031) (fun _ h9 => h9) rfl px_d238_65 ?_
        refine lv_iload hx hb px_d238_68 (lv_at hl 5 rfl) ?_
        have hPc := hP.sub (ws' := [(ho, .inr (1, [.ref q_o, .ref q_t, .int o_reached])), (q_o, .inl (c_i, l_o, .inl g_o)), (q_t, .inl (c_i, 182, .inl g_t))]) [4, 5, 6] rfl
        have hDc := hD.sub (ws' := [(ho, .inr (1, [.ref q_o, .ref q_t, .int o_reached])), (q_o, .inl (c_i, l_o, .inl g_o)), (q_t, .inl (c_i, 182, .inl g_t))]) [4, 5, 6] (by decide) rfl
        have hKc := hK.sub (tys' := [(c_i, .int)]) [1] rfl
        have hFc := va_free (wc := [(ho, .inr (1, [.ref q_o, .ref q_t, .int o_reached])), (q_o, .inl (c_i, l_o, .inl g_o)), (q_t, .inl (c_i, 182, .inl g_t))]) hD hS hA [4, 5, 6] rfl
        refine va_calli (va_runV (As := [.int m_size, .int x5]) (rest := []) ⟨hx, hb, hml, hown, htw⟩ (w240_met l dC dI H.size ho q_t c_i m_size x5 q_o l_o o_reached g_o g_t _ hw) (cwV 2 htw (px_gv px_w1233 px_w1240 px_w1241 px_w22 px_g240) rfl rfl rfl (by decide +kernel) ⟨Nat.le_of_ble_eq_true rfl, Nat.le_of_ble_eq_true rfl⟩) ⟨fun a U g mk q => by obtain ⟨q0, q1, qP, qK, qD, qN⟩ := q; exact ⟨q0, q1, qP, va_K.moved (u := U) (U := U.calling g mk a) (Vm.Alike.refl U.vm) qK, qD, qN.same rfl⟩, va_recv hK hP (ci := 1) (q0 := 4) rfl rfl, fun U hU hW => ⟨rfl, by rw [hU], by rw [hU]; exact hPc, va_K.moved hW.alike hKc, hDc.weaken (fun _ _ _ _ => trivial), hN.warm hW⟩⟩ rfl rfl hl.1 rfl (lv_room (Nat.le_of_ble_eq_true rfl)) px_d238_70 ⟨(Nat.le_of_ble_eq_true rfl), (Nat.le_of_ble_eq_true rfl)⟩) hS (fun q _ h => hFc q h) hFc (fun r70 u t H1 locs ht hvm hw hB hz1 hk1 hS => ?_)
        obtain ⟨v3, v4, v5, v6, v7⟩ := u
        obtain ⟨hP1, hK1, hD1⟩ := hB
        rw [ht] at hP1
        have hK1 := va_K.moved hvm.symm hK1
        obtain ⟨hP, hD⟩ := va_join (wr := [(hm, .inr (2, [.ref ho, .ref h1, .ref h2, .ref h3, .ref h4, .ref q_l, .ref q_m, .ref q_h, .int m_field, .int m_size, .int m_height, va_rf m_loaded])), (q_l, .inl (c_j, l_l, .inr (.inl g_l))), (q_m, .inl (c_j, l_m, .inr (.inl g_m))), (q_h, .inl (c_j, l_h, .inr (.inl g_h))), (r1, .inl (c_i, n_r, .inl g_r))]) (w1 := [(ho, .inr (1, [.ref v3, .ref q_t, .int v5])), (v3, .inl (c_i, v4, .inl v6)), (q_t, .inl (c_i, 182, .inl v7))]) hP hD [4, 5, 6] [0, 1, 2, 3, 7] rfl rfl (by decide) (by decide) hk1 hFc hP1 hD1
        generalize H1 = H at hP hS ⊢
        have hP : va_P (dC, dI) vwCl [(hm, .inr (2, [.ref ho, .ref h1, .ref h2, .ref h3, .ref h4, .ref q_l, .ref q_m, .ref q_h, .int m_field, .int m_size, .int m_height, va_rf m_loaded])), (q_l, .inl (c_j, l_l, .inr (.inl g_l))), (q_m, .inl (c_j, l_m, .inr (.inl g_m))), (q_h, .inl (c_j, l_h, .inr (.inl g_h))), (r1, .inl (c_i, n_r, .inl g_r)), (ho, .inr (1, [.ref v3, .ref q_t, .int v5])), (v3, .inl (c_i, v4, .inl v6)), (q_t, .inl (c_i, 182, .inl v7))] H := hP
        have hD : va_D A [(hm, .inr (2, [.ref ho, .ref h1, .ref h2, .ref h3, .ref h4, .ref q_l, .ref q_m, .ref q_h, .int m_field, .int m_size, .int m_height, va_rf m_loaded])), (q_l, .inl (c_j, l_l, .inr (.inl g_l))), (q_m, .inl (c_j, l_m, .inr (.inl g_m))), (q_h, .inl (c_j, l_h, .inr (.inl g_h))), (r1, .inl (c_i, n_r, .inl g_r)), (ho, .inr (1, [.ref v3, .ref q_t, .int v5])), (v3, .inl (c_i, v4, .inl v6)), (q_t, .inl (c_i, 182, .inl v7))] := hD
        have hP := hP.sub (ws' := [(hm, .inr (2, [.ref ho, .ref h1, .ref h2, .ref h3, .ref h4, .ref q_l, .ref q_m, .ref q_h, .int m_field, .int m_size, .int m_height, va_rf m_loaded])), (q_l, .inl (c_j, l_l, .inr (.inl g_l))), (q_m, .inl (c_j, l_m, .inr (.inl g_m))), (q_h, .inl (c_j, l_h, .inr (.inl g_h))), (ho, .inr (1, [.ref v3, .ref q_t, .int v5])), (v3, .inl (c_i, v4, .inl v6)), (q_t, .inl (c_i, 182, .inl v7)), (r1, .inl (c_i, n_r, .inl g_r))]) [0, 1, 2, 3, 5, 6, 7, 4] rfl
        have hD := hD.sub (ws' := [(hm, .inr (2, [.ref ho, .ref h1, .ref h2, .ref h3, .ref h4, .ref q_l, .ref q_m, .ref q_h, .int m_field, .int m_size, .int m_height, va_rf m_loaded])), (q_l, .inl (c_j, l_l, .inr (.inl g_l))), (q_m, .inl (c_j, l_m, .inr (.inl g_m))), (q_h, .inl (c_j, l_h, .inr (.inl g_h))), (ho, .inr (1, [.ref v3, .ref q_t, .int v5])), (v3, .inl (c_i, v4, .inl v6)), (q_t, .inl (c_i, 182, .inl v7)), (r1, .inl (c_i, n_r, .inl g_r))]) [0, 1, 2, 3, 5, 6, 7, 4] (by decide) rfl
        refine lv_istore (lv' := [(6, .int r70), (0, .ref hm), (1, .ref r1), (2, .int x2), (3, .int x3), (4, .int x4), (5, .int x5)]) hx hb px_d238_73 hl (by decide) rfl (fun ls hl => ?_)
        refine lv_aload_n hx hb px_d238_75 rfl (lv_at hl 1 rfl) ?_
        refine lv_iload hx hb px_d238_76 (lv_at hl 0 rfl) ?_
        refine lv_aload_n hx hb px_d238_78 rfl (lv_at hl 2 rfl) ?_
        refine lv_iload_n hx hb px_d238_79 rfl (lv_at hl 3 rfl) ?_
        have hPc := hP.sub (ws' := [(hm, .inr (2, [.ref ho, .ref h1, .ref h2, .ref h3, .ref h4, .ref q_l, .ref q_m, .ref q_h, .int m_field, .int m_size, .int m_height, va_rf m_loaded])), (q_l, .inl (c_j, l_l, .inr (.inl g_l))), (q_m, .inl (c_j, l_m, .inr (.inl g_m))), (q_h, .inl (c_j, l_h, .inr (.inl g_h))), (r1, .inl (c_i, n_r, .inl g_r))]) [0, 1, 2, 3, 7] rfl
        have hDc := hD.sub (ws' := [(hm, .inr (2, [.ref ho, .ref h1, .ref h2, .ref h3, .ref h4, .ref q_l, .ref q_m, .ref q_h, .int m_field, .int m_size, .int m_height, va_rf m_loaded])), (q_l, .inl (c_j, l_l, .inr (.inl g_l))), (q_m, .inl (c_j, l_m, .inr (.inl g_m))), (q_h, .inl (c_j, l_h, .inr (.inl g_h))), (r1, .inl (c_i, n_r, .inl g_r))]) [0, 1, 2, 3, 7] (by decide) rfl
        have hKc := hK.sub (tys' := [(c_j, .long), (c_i, .int)]) [0, 1] rfl
        have hFc := va_free (wc := [(hm, .inr (2, [.ref ho, .ref h1, .ref h2, .ref h3, .ref h4, .ref q_l, .ref q_m, .ref q_h, .int m_field, .int m_size, .int m_height, va_rf m_loaded])), (q_l, .inl (c_j, l_l, .inr (.inl g_l))), (q_m, .inl (c_j, l_m, .inr (.inl g_m))), (q_h, .inl (c_j, l_h, .inr (.inl g_h))), (r1, .inl (c_i, n_r, .inl g_r))]) hD hS hA [0, 1, 2, 3, 7] rfl
        refine va_callv (va_runV (As := [.int r70, .ref r1, .int x2]) (rest := []) ⟨hx, hb, hml, hown, htw⟩ (w241_met l dC dI H.size hm ho h1 h2 h3 h4 c_j c_i r1 n_r r70 x2 q_l q_m q_h l_l l_m l_h m_field m_size m_height m_loaded g_l g_m g_h g_r _ hw) (cwV 3 htw (px_gv px_w1234 px_w1243 px_w1244 px_w27 px_g241) rfl rfl rfl (by decide +kernel) ⟨Nat.le_of_ble_eq_true rfl, Nat.le_of_ble_eq_true rfl⟩) ⟨fun a U g mk q => by obtain ⟨q0, q1, qP, qK, qD, qN⟩ := q; exact ⟨q0, q1, qP, va_K.moved (u := U) (U := U.calling g mk a) (Vm.Alike.refl U.vm) qK, qD, qN.same rfl⟩, va_recv hK hP (ci := 2) (q0 := 0) rfl rfl, fun U hU hW => ⟨rfl, by rw [hU], by rw [hU]; exact hPc, va_K.moved hW.alike hKc, hDc.weaken (fun _ _ _ _ => trivial), hN.warm hW⟩⟩ rfl rfl hl.1 rfl (lv_room (Nat.le_of_ble_eq_true rfl)) px_d238_80 ⟨(Nat.le_of_ble_eq_true rfl), (Nat.le_of_ble_eq_true rfl)⟩) hS (fun q _ h => hFc q h) hFc (fun u t H1 locs ht hvm hw hB hz1 hk1 hS => ?_)
        obtain ⟨v8, v9, v10, v11, v12, v13, v14, v15, v16, v17, v18, v19, v20, v21⟩ := u
        obtain ⟨hP1, hK1, hD1⟩ := hB
        rw [ht] at hP1
        have hK1 := va_K.moved hvm.symm hK1
        obtain ⟨hP, hD⟩ := va_join (wr := [(ho, .inr (1, [.ref v3, .ref q_t, .int v5])), (v3, .inl (c_i, v4, .inl v6)), (q_t, .inl (c_i, 182, .inl v7))]) (w1 := [(hm, .inr (2, [.ref ho, .ref h1, .ref h2, .ref h3, .ref h4, .ref v8, .ref v9, .ref v10, .int v14, .int v15, .int v16, va_rf v17])), (v8, .inl (c_j, v11, .inr (.inl v18))), (v9, .inl (c_j, v12, .inr (.inl v19))), (v10, .inl (c_j, v13, .inr (.inl v20))), (r1, .inl (c_i, n_r, .inl v21))]) hP hD [0, 1, 2, 3, 7] [4, 5, 6] rfl rfl (by decide) (by decide) hk1 hFc hP1 hD1
        generalize H1 = H at hP hS ⊢
        have hP : va_P (dC, dI) vwCl [(ho, .inr (1, [.ref v3, .ref q_t, .int v5])), (v3, .inl (c_i, v4, .inl v6)), (q_t, .inl (c_i, 182, .inl v7)), (hm, .inr (2, [.ref ho, .ref h1, .ref h2, .ref h3, .ref h4, .ref v8, .ref v9, .ref v10, .int v14, .int v15, .int v16, va_rf v17])), (v8, .inl (c_j, v11, .inr (.inl v18))), (v9, .inl (c_j, v12, .inr (.inl v19))), (v10, .inl (c_j, v13, .inr (.inl v20))), (r1, .inl (c_i, n_r, .inl v21))] H := hP
        have hD : va_D A [(ho, .inr (1, [.ref v3, .ref q_t, .int v5])), (v3, .inl (c_i, v4, .inl v6)), (q_t, .inl (c_i, 182, .inl v7)), (hm, .inr (2, [.ref ho, .ref h1, .ref h2, .ref h3, .ref h4, .ref v8, .ref v9, .ref v10, .int v14, .int v15, .int v16, va_rf v17])), (v8, .inl (c_j, v11, .inr (.inl v18))), (v9, .inl (c_j, v12, .inr (.inl v19))), (v10, .inl (c_j, v13, .inr (.inl v20))), (r1, .inl (c_i, n_r, .inl v21))] := hD
        have hP := hP.sub (ws' := [(hm, .inr (2, [.ref ho, .ref h1, .ref h2, .ref h3, .ref h4, .ref v8, .ref v9, .ref v10, .int v14, .int v15, .int v16, va_rf v17])), (v8, .inl (c_j, v11, .inr (.inl v18))), (v9, .inl (c_j, v12, .inr (.inl v19))), (v10, .inl (c_j, v13, .inr (.inl v20))), (ho, .inr (1, [.ref v3, .ref q_t, .int v5])), (v3, .inl (c_i, v4, .inl v6)), (q_t, .inl (c_i, 182, .inl v7)), (r1, .inl (c_i, n_r, .inl v21))]) [3, 4, 5, 6, 0, 1, 2, 7] rfl
        have hD := hD.sub (ws' := [(hm, .inr (2, [.ref ho, .ref h1, .ref h2, .ref h3, .ref h4, .ref v8, .ref v9, .ref v10, .int v14, .int v15, .int v16, va_rf v17])), (v8, .inl (c_j, v11, .inr (.inl v18))), (v9, .inl (c_j, v12, .inr (.inl v19))), (v10, .inl (c_j, v13, .inr (.inl v20))), (ho, .inr (1, [.ref v3, .ref q_t, .int v5])), (v3, .inl (c_i, v4, .inl v6)), (q_t, .inl (c_i, 182, .inl v7)), (r1, .inl (c_i, n_r, .inl v21))]) [3, 4, 5, 6, 0, 1, 2, 7] (by decide) rfl
        refine lv_iload_n hx hb px_d238_83 rfl (lv_at hl 4 rfl) ?_
        refine lv_if_ne (tgt := 96) hx hb px_d238_84 (by decide) (fun c84 => ?_) (fun c84 => ?_)
        · have hw := hw.1 c84
          exact S96 x2 x3 x4 x5 r70 v8 v9 v10 v11 v12 v13 v14 v15 v16 v17 v18 v19 v20 v3 v4 v5 v6 v7 v21 H locs ls hP hD hS (lv_sub hl [1, 2, 3, 4, 5, 6, 0] rfl) hw
        · have hw := hw.2 c84
          refine lv_aload_n hx hb px_d238_87 rfl (lv_at hl 1 rfl) ?_
          refine lv_iload hx hb px_d238_88 (lv_at hl 0 rfl) ?_
          have hPc := hP.sub (ws' := [(hm, .inr (2, [.ref ho, .ref h1, .ref h2, .ref h3, .ref h4, .ref v8, .ref v9, .ref v10, .int v14, .int v15, .int v16, va_rf v17])), (v8, .inl (c_j, v11, .inr (.inl v18))), (v9, .inl (c_j, v12, .inr (.inl v19))), (v10, .inl (c_j, v13, .inr (.inl v20)))]) [0, 1, 2, 3] rfl
          have hDc := hD.sub (ws' := [(hm, .inr (2, [.ref ho, .ref h1, .ref h2, .ref h3, .ref h4, .ref v8, .ref v9, .ref v10, .int v14, .int v15, .int v16, va_rf v17])), (v8, .inl (c_j, v11, .inr (.inl v18))), (v9, .inl (c_j, v12, .inr (.inl v19))), (v10, .inl (c_j, v13, .inr (.inl v20)))]) [0, 1, 2, 3] (by decide) rfl
          have hKc := hK.sub (tys' := [(c_j, .long)]) [0] rfl
          have hFc := va_free (wc := [(hm, .inr (2, [.ref ho, .ref h1, .ref h2, .ref h3, .ref h4, .ref v8, .ref v9, .ref v10, .int v14, .int v15, .int v16, va_rf v17])), (v8, .inl (c_j, v11, .inr (.inl v18))), (v9, .inl (c_j, v12, .inr (.inl v19))), (v10, .inl (c_j, v13, .inr (.inl v20)))]) hD hS hA [0, 1, 2, 3] rfl
          refine va_calli (va_runV (As := [.int r70]) (rest := []) ⟨hx, hb, hml, hown, htw⟩ (w243_met l dC dI H.size hm ho h1 h2 h3 h4 c_j r70 v8 v9 v10 v11 v12 v13 v14 v15 v16 v17 v18 v19 v20 _ hw) (cwV 1 htw (px_gv px_w1235 px_w1250 px_w1251 px_w27 px_g243) rfl rfl rfl (by decide +kernel) ⟨Nat.le_of_ble_eq_true rfl, Nat.le_of_ble_eq_true rfl⟩) ⟨fun a U g mk q => by obtain ⟨q0, q1, qP, qK, qD, qN⟩ := q; exact ⟨q0, q1, qP, va_K.moved (u := U) (U := U.calling g mk a) (Vm.Alike.refl U.vm) qK, qD, qN.same rfl⟩, va_recv hK hP (ci := 2) (q0 := 0) rfl rfl, fun U hU hW => ⟨rfl, by rw [hU], by rw [hU]; exact hPc, va_K.moved hW.alike hKc, hDc.weaken (fun _ _ _ _ => trivial), hN.warm hW⟩⟩ rfl rfl hl.1 rfl (lv_room (Nat.le_of_ble_eq_true rfl)) px_d238_90 ⟨(Nat.le_of_ble_eq_true rfl), (Nat.le_of_ble_eq_true rfl)⟩) hS (fun q _ h => hFc q h) hFc (fun r90 u t H1 locs ht hvm hw hB hz1 hk1 hS => ?_)
          obtain ⟨v22, v23, v24, v25, v26, v27, v28, v29, v30, v31, v32, v33, v34⟩ := u
          obtain ⟨hP1, hK1, hD1⟩ := hB
          rw [ht] at hP1
          have hK1 := va_K.moved hvm.symm hK1
          obtain ⟨hP, hD⟩ := va_join (wr := [(ho, .inr (1, [.ref v3, .ref q_t, .int v5])), (v3, .inl (c_i, v4, .inl v6)), (q_t, .inl (c_i, 182, .inl v7)), (r1, .inl (c_i, n_r, .inl v21))]) (w1 := [(hm, .inr (2, [.ref ho, .ref h1, .ref h2, .ref h3, .ref h4, .ref v22, .ref v23, .ref v24, .int v28, .int v29, .int v30, va_rf v31])), (v22, .inl (c_j, v25, .inr (.inl v32))), (v23, .inl (c_j, v26, .inr (.inl v33))), (v24, .inl (c_j, v27, .inr (.inl v34)))]) hP hD [0, 1, 2, 3] [4, 5, 6, 7] rfl rfl (by decide) (by decide) hk1 hFc hP1 hD1
          generalize H1 = H at hP hS ⊢
          have hP : va_P (dC, dI) vwCl [(ho, .inr (1, [.ref v3, .ref q_t, .int v5])), (v3, .inl (c_i, v4, .inl v6)), (q_t, .inl (c_i, 182, .inl v7)), (r1, .inl (c_i, n_r, .inl v21)), (hm, .inr (2, [.ref ho, .ref h1, .ref h2, .ref h3, .ref h4, .ref v22, .ref v23, .ref v24, .int v28, .int v29, .int v30, va_rf v31])), (v22, .inl (c_j, v25, .inr (.inl v32))), (v23, .inl (c_j, v26, .inr (.inl v33))), (v24, .inl (c_j, v27, .inr (.inl v34)))] H := hP
          have hD : va_D A [(ho, .inr (1, [.ref v3, .ref q_t, .int v5])), (v3, .inl (c_i, v4, .inl v6)), (q_t, .inl (c_i, 182, .inl v7)), (r1, .inl (c_i, n_r, .inl v21)), (hm, .inr (2, [.ref ho, .ref h1, .ref h2, .ref h3, .ref h4, .ref v22, .ref v23, .ref v24, .int v28, .int v29, .int v30, va_rf v31])), (v22, .inl (c_j, v25, .inr (.inl v32))), (v23, .inl (c_j, v26, .inr (.inl v33))), (v24, .inl (c_j, v27, .inr (.inl v34)))] := hD
          have hP := hP.sub (ws' := [(hm, .inr (2, [.ref ho, .ref h1, .ref h2, .ref h3, .ref h4, .ref v22, .ref v23, .ref v24, .int v28, .int v29, .int v30, va_rf v31])), (v22, .inl (c_j, v25, .inr (.inl v32))), (v23, .inl (c_j, v26, .inr (.inl v33))), (v24, .inl (c_j, v27, .inr (.inl v34))), (ho, .inr (1, [.ref v3, .ref q_t, .int v5])), (v3, .inl (c_i, v4, .inl v6)), (q_t, .inl (c_i, 182, .inl v7)), (r1, .inl (c_i, n_r, .inl v21))]) [4, 5, 6, 7, 0, 1, 2, 3] rfl
          have hD := hD.sub (ws' := [(hm, .inr (2, [.ref ho, .ref h1, .ref h2, .ref h3, .ref h4, .ref v22, .ref v23, .ref v24, .int v28, .int v29, .int v30, va_rf v31])), (v22, .inl (c_j, v25, .inr (.inl v32))), (v23, .inl (c_j, v26, .inr (.inl v33))), (v24, .inl (c_j, v27, .inr (.inl v34))), (ho, .inr (1, [.ref v3, .ref q_t, .int v5])), (v3, .inl (c_i, v4, .inl v6)), (q_t, .inl (c_i, 182, .inl v7)), (r1, .inl (c_i, n_r, .inl v21))]) [4, 5, 6, 7, 0, 1, 2, 3] (by decide) rfl
          refine lv_if_eq (tgt := 100) hx hb px_d238_93 (by decide) (fun c93 => ?_) (fun c93 => ?_)
          · have hw := hw.1 c93
            refine lv_iconst (v := 0) hx hb px_d238_100 (by decide) ?_
            exact S101 x2 x3 x4 x5 r70 0 v22 v23 v24 v25 v26 v27 v28 v29 v30 v31 v32 v33 v34 v3 v4 v5 v6 v7 v21 H locs ls hP hD hS (lv_sub hl [1, 2, 3, 4, 5, 6, 0] rfl) hw
          · have hw := hw.2 c93
            exact S96 x2 x3 x4 x5 r70 v22 v23 v24 v25 v26 v27 v28 v29 v30 v31 v32 v33 v34 v3 v4 v5 v6 v7 v21 H locs ls hP hD hS (lv_sub hl [1, 2, 3, 4, 5, 6, 0] rfl) hw
  unfold w238_wp at hw
  have hS0 := hS
  obtain ⟨H, hH9⟩ : ∃ z, z = s.heap := ⟨_, rfl⟩
  have hP : va_P (dC, dI) vwCl [(hm, .inr (2, [.ref ho, .ref h1, .ref h2, .ref h3, .ref h4, .ref q_l, .ref q_m, .ref q_h, .int m_field, .int m_size, .int m_height, va_rf m_loaded])), (q_l, .inl (c_j, l_l, .inr (.inl g_l))), (q_m, .inl (c_j, l_m, .inr (.inl g_m))), (q_h, .inl (c_j, l_h, .inr (.inl g_h))), (ho, .inr (1, [.ref q_o, .ref q_t, .int o_reached])), (q_o, .inl (c_i, l_o, .inl g_o)), (q_t, .inl (c_i, 182, .inl g_t)), (r1, .inl (c_i, n_r, .inl g_r))] H := by rw [hH9]; exact hP
  obtain ⟨locs, hlo9⟩ : ∃ z : List Loc, z = [] := ⟨_, rfl⟩
  have hS : va_S A s.heap H locs := by rw [hH9, hlo9]; exact hS
  suffices hG : W p l e (headSpec px_s238 ({ frames := 2, cells := 0, slots := 0, locals := 59 })).room s m ([.ref hm, .ref r1, .int a2x]).toArray below meth c H locs 0 0 Q (F0 m 0 ls []) by rw [hH9, hlo9] at hG; exact hG
  refine lv_aload_n hx hb px_d238_0 rfl (lv_at hl 0 rfl) ?_
  refine va_get (D := (dC, dI)) (ci := 2) (v := .int m_height) (C := "MatroidDesk$Minors") (T := px_T2) (N := 12) hx hb htw px_in2 hown hK hP 0 rfl rfl 10 (by decide) (htw _ px_w1022) (fun _ h9 => h9) rfl px_d238_1 ?_
  refine lv_aload_n hx hb px_d238_4 rfl (lv_at hl 0 rfl) ?_
  refine va_get (D := (dC, dI)) (ci := 2) (v := .int m_size) (C := "MatroidDesk$Minors") (T := px_T2) (N := 12) hx hb htw px_in2 hown hK hP 0 rfl rfl 9 (by decide) (htw _ px_w1031) (fun _ h9 => h9) rfl px_d238_5 ?_
  refine lv_icmp_lt (tgt := 13) hx hb px_d238_8 (by decide) (fun c8 => ?_) (fun c8 => ?_)
  · have hw := hw.1 c8
    refine lv_iconst (v := 0) hx hb px_d238_13 (by decide) ?_
    refine lv_istore_n (lv' := [(3, .int 0), (0, .ref hm), (1, .ref r1), (2, .int a2x)]) hx hb px_d238_14 rfl hl (by decide) rfl (fun ls hl => ?_)
    refine lv_aload_n hx hb px_d238_15 rfl (lv_at hl 1 rfl) ?_
    refine va_get (D := (dC, dI)) (ci := 2) (v := .ref ho) (C := "MatroidDesk$Minors") (T := px_T2) (N := 12) hx hb htw px_in2 hown hK hP 0 rfl rfl 0 (by decide) (htw _ px_w199) (fun _ h9 => h9) rfl px_d238_16 ?_
    refine lv_aload_n hx hb px_d238_19 rfl (lv_at hl 1 rfl) ?_
    refine va_get (D := (dC, dI)) (ci := 2) (v := .int m_size) (C := "MatroidDesk$Minors") (T := px_T2) (N := 12) hx hb htw px_in2 hown hK hP 0 rfl rfl 9 (by decide) (htw _ px_w1031) (fun _ h9 => h9) rfl px_d238_20 ?_
    refine lv_aload_n hx hb px_d238_23 rfl (lv_at hl 1 rfl) ?_
    refine va_get (D := (dC, dI)) (ci := 2) (v := .int m_height) (C := "MatroidDesk$Minors") (T := px_T2) (N := 12) hx hb htw px_in2 hown hK hP 0 rfl rfl 10 (by decide) (htw _ px_w1022) (fun _ h9 => h9) rfl px_d238_24 ?_
    refine lv_iconst (v := 2) hx hb px_d238_27 (by decide) ?_
    refine lv_iadd hx hb px_d238_28 ?_
    have hPc := hP.sub (ws' := [(ho, .inr (1, [.ref q_o, .ref q_t, .int o_reached])), (q_o, .inl (c_i, l_o, .inl g_o)), (q_t, .inl (c_i, 182, .inl g_t))]) [4, 5, 6] rfl
    have hDc := hD.sub (ws' := [(ho, .inr (1, [.ref q_o, .ref q_t, .int o_reached])), (q_o, .inl (c_i, l_o, .inl g_o)), (q_t, .inl (c_i, 182, .inl g_t))]) [4, 5, 6] (by decide) rfl
    have hKc := hK.sub (tys' := [(c_i, .int)]) [1] rfl
    have hFc := va_free (wc := [(ho, .inr (1, [.ref q_o, .ref q_t, .int o_reached])), (q_o, .inl (c_i, l_o, .inl g_o)), (q_t, .inl (c_i, 182, .inl g_t))]) hD hS hA [4, 5, 6] rfl
    refine va_calli (va_runV (As := [.int m_size, .int (m_height + 2)]) (rest := []) ⟨hx, hb, hml, hown, htw⟩ (w239_met l dC dI H.size ho q_t c_i m_size (m_height + 2) q_o l_o o_reached g_o g_t _ hw) (cwV 2 htw (px_gv px_w1232 px_w1237 px_w1238 px_w22 px_g239) rfl rfl rfl (by decide +kernel) ⟨Nat.le_of_ble_eq_true rfl, Nat.le_of_ble_eq_true rfl⟩) ⟨fun a U g mk q => by obtain ⟨q0, q1, qP, qK, qD, qN⟩ := q; exact ⟨q0, q1, qP, va_K.moved (u := U) (U := U.calling g mk a) (Vm.Alike.refl U.vm) qK, qD, qN.same rfl⟩, va_recv hK hP (ci := 1) (q0 := 4) rfl rfl, fun U hU hW => ⟨rfl, by rw [hU], by rw [hU]; exact hPc, va_K.moved hW.alike hKc, hDc.weaken (fun _ _ _ _ => trivial), hN.warm hW⟩⟩ rfl rfl hl.1 rfl (lv_room (Nat.le_of_ble_eq_true rfl)) px_d238_29 ⟨(Nat.le_of_ble_eq_true rfl), (Nat.le_of_ble_eq_true rfl)⟩) hS (fun q _ h => hFc q h) hFc (fun r29 u t H1 locs ht hvm hw hB hz1 hk1 hS => ?_)
    obtain ⟨v35, v36, v37, v38, v39⟩ := u
    obtain ⟨hP1, hK1, hD1⟩ := hB
    rw [ht] at hP1
    have hK1 := va_K.moved hvm.symm hK1
    obtain ⟨hP, hD⟩ := va_join (wr := [(hm, .inr (2, [.ref ho, .ref h1, .ref h2, .ref h3, .ref h4, .ref q_l, .ref q_m, .ref q_h, .int m_field, .int m_size, .int m_height, va_rf m_loaded])), (q_l, .inl (c_j, l_l, .inr (.inl g_l))), (q_m, .inl (c_j, l_m, .inr (.inl g_m))), (q_h, .inl (c_j, l_h, .inr (.inl g_h))), (r1, .inl (c_i, n_r, .inl g_r))]) (w1 := [(ho, .inr (1, [.ref v35, .ref q_t, .int v37])), (v35, .inl (c_i, v36, .inl v38)), (q_t, .inl (c_i, 182, .inl v39))]) hP hD [4, 5, 6] [0, 1, 2, 3, 7] rfl rfl (by decide) (by decide) hk1 hFc hP1 hD1
    generalize H1 = H at hP hS ⊢
    have hP : va_P (dC, dI) vwCl [(hm, .inr (2, [.ref ho, .ref h1, .ref h2, .ref h3, .ref h4, .ref q_l, .ref q_m, .ref q_h, .int m_field, .int m_size, .int m_height, va_rf m_loaded])), (q_l, .inl (c_j, l_l, .inr (.inl g_l))), (q_m, .inl (c_j, l_m, .inr (.inl g_m))), (q_h, .inl (c_j, l_h, .inr (.inl g_h))), (r1, .inl (c_i, n_r, .inl g_r)), (ho, .inr (1, [.ref v35, .ref q_t, .int v37])), (v35, .inl (c_i, v36, .inl v38)), (q_t, .inl (c_i, 182, .inl v39))] H := hP
    have hD : va_D A [(hm, .inr (2, [.ref ho, .ref h1, .ref h2, .ref h3, .ref h4, .ref q_l, .ref q_m, .ref q_h, .int m_field, .int m_size, .int m_height, va_rf m_loaded])), (q_l, .inl (c_j, l_l, .inr (.inl g_l))), (q_m, .inl (c_j, l_m, .inr (.inl g_m))), (q_h, .inl (c_j, l_h, .inr (.inl g_h))), (r1, .inl (c_i, n_r, .inl g_r)), (ho, .inr (1, [.ref v35, .ref q_t, .int v37])), (v35, .inl (c_i, v36, .inl v38)), (q_t, .inl (c_i, 182, .inl v39))] := hD
    have hP := hP.sub (ws' := [(hm, .inr (2, [.ref ho, .ref h1, .ref h2, .ref h3, .ref h4, .ref q_l, .ref q_m, .ref q_h, .int m_field, .int m_size, .int m_height, va_rf m_loaded])), (q_l, .inl (c_j, l_l, .inr (.inl g_l))), (q_m, .inl (c_j, l_m, .inr (.inl g_m))), (q_h, .inl (c_j, l_h, .inr (.inl g_h))), (ho, .inr (1, [.ref v35, .ref q_t, .int v37])), (v35, .inl (c_i, v36, .inl v38)), (q_t, .inl (c_i, 182, .inl v39)), (r1, .inl (c_i, n_r, .inl g_r))]) [0, 1, 2, 3, 5, 6, 7, 4] rfl
    have hD := hD.sub (ws' := [(hm, .inr (2, [.ref ho, .ref h1, .ref h2, .ref h3, .ref h4, .ref q_l, .ref q_m, .ref q_h, .int m_field, .int m_size, .int m_height, va_rf m_loaded])), (q_l, .inl (c_j, l_l, .inr (.inl g_l))), (q_m, .inl (c_j, l_m, .inr (.inl g_m))), (q_h, .inl (c_j, l_h, .inr (.inl g_h))), (ho, .inr (1, [.ref v35, .ref q_t, .int v37])), (v35, .inl (c_i, v36, .inl v38)), (q_t, .inl (c_i, 182, .inl v39)), (r1, .inl (c_i, n_r, .inl g_r))]) [0, 1, 2, 3, 5, 6, 7, 4] (by decide) rfl
    refine lv_istore (lv' := [(4, .int r29), (3, .int 0), (0, .ref hm), (1, .ref r1), (2, .int a2x)]) hx hb px_d238_32 hl (by decide) rfl (fun ls hl => ?_)
    refine lv_aload_n hx hb px_d238_34 rfl (lv_at hl 2 rfl) ?_
    refine va_get (D := (dC, dI)) (ci := 2) (v := .ref ho) (C := "MatroidDesk$Minors") (T := px_T2) (N := 12) hx hb htw px_in2 hown hK hP 0 rfl rfl 0 (by decide) (htw _ px_w199) (fun _ h9 => h9) rfl px_d238_35 ?_
    refine lv_aload_n hx hb px_d238_38 rfl (lv_at hl 2 rfl) ?_
    refine va_get (D := (dC, dI)) (ci := 2) (v := .int m_size) (C := "MatroidDesk$Minors") (T := px_T2) (N := 12) hx hb htw px_in2 hown hK hP 0 rfl rfl 9 (by decide) (htw _ px_w1031) (fun _ h9 => h9) rfl px_d238_39 ?_
    refine lv_aload_n hx hb px_d238_42 rfl (lv_at hl 2 rfl) ?_
    refine va_get (D := (dC, dI)) (ci := 2) (v := .int m_height) (C := "MatroidDesk$Minors") (T := px_T2) (N := 12) hx hb htw px_in2 hown hK hP 0 rfl rfl 10 (by decide) (htw _ px_w1022) (fun _ h9 => h9) rfl px_d238_43 ?_
    refine lv_iconst (v := 1) hx hb px_d238_46 (by decide) ?_
    refine lv_iadd hx hb px_d238_47 ?_
    have hPc := hP.sub (ws' := [(ho, .inr (1, [.ref v35, .ref q_t, .int v37])), (v35, .inl (c_i, v36, .inl v38)), (q_t, .inl (c_i, 182, .inl v39))]) [4, 5, 6] rfl
    have hDc := hD.sub (ws' := [(ho, .inr (1, [.ref v35, .ref q_t, .int v37])), (v35, .inl (c_i, v36, .inl v38)), (q_t, .inl (c_i, 182, .inl v39))]) [4, 5, 6] (by decide) rfl
    have hKc := hK.sub (tys' := [(c_i, .int)]) [1] rfl
    have hFc := va_free (wc := [(ho, .inr (1, [.ref v35, .ref q_t, .int v37])), (v35, .inl (c_i, v36, .inl v38)), (q_t, .inl (c_i, 182, .inl v39))]) hD hS hA [4, 5, 6] rfl
    refine va_calli (va_runV (As := [.int m_size, .int (m_height + 1)]) (rest := []) ⟨hx, hb, hml, hown, htw⟩ (w239_met l dC dI H.size ho q_t c_i m_size (m_height + 1) v35 v36 v37 v38 v39 _ hw) (cwV 2 htw (px_gv px_w1232 px_w1237 px_w1238 px_w22 px_g239) rfl rfl rfl (by decide +kernel) ⟨Nat.le_of_ble_eq_true rfl, Nat.le_of_ble_eq_true rfl⟩) ⟨fun a U g mk q => by obtain ⟨q0, q1, qP, qK, qD, qN⟩ := q; exact ⟨q0, q1, qP, va_K.moved (u := U) (U := U.calling g mk a) (Vm.Alike.refl U.vm) qK, qD, qN.same rfl⟩, va_recv hK hP (ci := 1) (q0 := 4) rfl rfl, fun U hU hW => ⟨rfl, by rw [hU], by rw [hU]; exact hPc, va_K.moved hW.alike hKc, hDc.weaken (fun _ _ _ _ => trivial), hN.warm hW⟩⟩ rfl rfl hl.1 rfl (lv_room (Nat.le_of_ble_eq_true rfl)) px_d238_48 ⟨(Nat.le_of_ble_eq_true rfl), (Nat.le_of_ble_eq_true rfl)⟩) hS (fun q _ h => hFc q h) hFc (fun r48 u t H1 locs ht hvm hw hB hz1 hk1 hS => ?_)
    obtain ⟨v40, v41, v42, v43, v44⟩ := u
    obtain ⟨hP1, hK1, hD1⟩ := hB
    rw [ht] at hP1
    have hK1 := va_K.moved hvm.symm hK1
    obtain ⟨hP, hD⟩ := va_join (wr := [(hm, .inr (2, [.ref ho, .ref h1, .ref h2, .ref h3, .ref h4, .ref q_l, .ref q_m, .ref q_h, .int m_field, .int m_size, .int m_height, va_rf m_loaded])), (q_l, .inl (c_j, l_l, .inr (.inl g_l))), (q_m, .inl (c_j, l_m, .inr (.inl g_m))), (q_h, .inl (c_j, l_h, .inr (.inl g_h))), (r1, .inl (c_i, n_r, .inl g_r))]) (w1 := [(ho, .inr (1, [.ref v40, .ref q_t, .int v42])), (v40, .inl (c_i, v41, .inl v43)), (q_t, .inl (c_i, 182, .inl v44))]) hP hD [4, 5, 6] [0, 1, 2, 3, 7] rfl rfl (by decide) (by decide) hk1 hFc hP1 hD1
    generalize H1 = H at hP hS ⊢
    have hP : va_P (dC, dI) vwCl [(hm, .inr (2, [.ref ho, .ref h1, .ref h2, .ref h3, .ref h4, .ref q_l, .ref q_m, .ref q_h, .int m_field, .int m_size, .int m_height, va_rf m_loaded])), (q_l, .inl (c_j, l_l, .inr (.inl g_l))), (q_m, .inl (c_j, l_m, .inr (.inl g_m))), (q_h, .inl (c_j, l_h, .inr (.inl g_h))), (r1, .inl (c_i, n_r, .inl g_r)), (ho, .inr (1, [.ref v40, .ref q_t, .int v42])), (v40, .inl (c_i, v41, .inl v43)), (q_t, .inl (c_i, 182, .inl v44))] H := hP
    have hD : va_D A [(hm, .inr (2, [.ref ho, .ref h1, .ref h2, .ref h3, .ref h4, .ref q_l, .ref q_m, .ref q_h, .int m_field, .int m_size, .int m_height, va_rf m_loaded])), (q_l, .inl (c_j, l_l, .inr (.inl g_l))), (q_m, .inl (c_j, l_m, .inr (.inl g_m))), (q_h, .inl (c_j, l_h, .inr (.inl g_h))), (r1, .inl (c_i, n_r, .inl g_r)), (ho, .inr (1, [.ref v40, .ref q_t, .int v42])), (v40, .inl (c_i, v41, .inl v43)), (q_t, .inl (c_i, 182, .inl v44))] := hD
    have hP := hP.sub (ws' := [(hm, .inr (2, [.ref ho, .ref h1, .ref h2, .ref h3, .ref h4, .ref q_l, .ref q_m, .ref q_h, .int m_field, .int m_size, .int m_height, va_rf m_loaded])), (q_l, .inl (c_j, l_l, .inr (.inl g_l))), (q_m, .inl (c_j, l_m, .inr (.inl g_m))), (q_h, .inl (c_j, l_h, .inr (.inl g_h))), (ho, .inr (1, [.ref v40, .ref q_t, .int v42])), (v40, .inl (c_i, v41, .inl v43)), (q_t, .inl (c_i, 182, .inl v44)), (r1, .inl (c_i, n_r, .inl g_r))]) [0, 1, 2, 3, 5, 6, 7, 4] rfl
    have hD := hD.sub (ws' := [(hm, .inr (2, [.ref ho, .ref h1, .ref h2, .ref h3, .ref h4, .ref q_l, .ref q_m, .ref q_h, .int m_field, .int m_size, .int m_height, va_rf m_loaded])), (q_l, .inl (c_j, l_l, .inr (.inl g_l))), (q_m, .inl (c_j, l_m, .inr (.inl g_m))), (q_h, .inl (c_j, l_h, .inr (.inl g_h))), (ho, .inr (1, [.ref v40, .ref q_t, .int v42])), (v40, .inl (c_i, v41, .inl v43)), (q_t, .inl (c_i, 182, .inl v44)), (r1, .inl (c_i, n_r, .inl g_r))]) [0, 1, 2, 3, 5, 6, 7, 4] (by decide) rfl
    refine lv_istore (lv' := [(5, .int r48), (4, .int r29), (3, .int 0), (0, .ref hm), (1, .ref r1), (2, .int a2x)]) hx hb px_d238_51 hl (by decide) rfl (fun ls hl => ?_)
    obtain ⟨k9, hw⟩ := hw
    exact S53 k9 a2x 0 r29 r48 q_l q_m q_h l_l l_m l_h m_field m_size m_height m_loaded g_l g_m g_h v40 v41 v42 v43 v44 g_r H locs ls hP hD hS (lv_sub hl [3, 4, 5, 2, 1, 0] rfl) hw
  · have hw := hw.2 c8
    refine lv_iconst (v := 0) hx hb px_d238_11 (by decide) ?_
    obtain ⟨hz9, hw⟩ := hw
    rw [← hQ]
    exact W.zret (v := 0) hx hb hr hz9 (fun t ht hW => ⟨⟨0, (q_l, q_m, q_h, l_l, l_m, l_h, m_field, m_size, m_height, m_loaded, g_l, g_m, g_h, q_o, l_o, o_reached, g_o, g_t, g_r), rfl, hw, by rw [ht]; exact hP, va_K.moved hW.alike hK, hD⟩, hS.F ht⟩) hS.2.2 px_d238_12

