theorem px_cAeq {D : va_G} {cl : List vw_C} {tys : List (ClassId × FieldType)} {U : State} {cA cB : ClassId} {ty : FieldType} (h9 : va_K D cl (tys ++ [(cA, ty)]) U) (h : va_K D cl tys U) (k : Nat) (hk : tys[k]? = some (cB, ty)) : cA = cB := by
  have h1 := (h9.2 tys.length (cA, ty) (by rw [List.getElem?_append_right (Nat.le_refl _), Nat.sub_self]; rfl)).2
  have h2 := (h.2 k _ hk).2
  cases ty with
  | object C =>
    obtain ⟨_, _, _, _, _, e1⟩ := h1
    obtain ⟨_, _, _, _, _, e2⟩ := h2
    exact Option.some.inj (e1.symm.trans e2)
  | _ => exact Option.some.inj (Eq.trans (Eq.symm h1) h2)

/-! java/util/Arrays.copyOf([II)[I -/
def w182_wp (n_r : Nat) (mc : Nat) (ms : Nat) (post : Nat → Nat → (Nat → Int32) → (Nat → Int32) → Prop) (a1x : Int32) (g_r : Nat → Int32) : Prop := (¬ a1x = (nI n_r) → ¬ a1x < 0 ∧ (Int32.toNatClampNeg a1x) * 4 ≤ 536870912 ∧ 0 + 1 ≤ mc ∧ 0 + (Int32.toNatClampNeg a1x) ≤ ms ∧ (∀ q15_1 : Nat, ((w183_wp (fun r25  => ¬ (0 : Int32) < 0 ∧ ¬ (0 : Int32) < 0 ∧ ¬ r25 < 0 ∧ Int32.toNatClampNeg 0 + Int32.toNatClampNeg r25 ≤ n_r ∧ Int32.toNatClampNeg 0 + Int32.toNatClampNeg r25 ≤ Int32.toNatClampNeg a1x ∧ (∀ i : Nat, i < Int32.toNatClampNeg r25 → fits .int (.int (g_r (Int32.toNatClampNeg 0 + i))) = true) ∧ (∀ g28_3 : Nat → Int32, g28_3 = va_cpy g_r (fun _ => 0) (Int32.toNatClampNeg 0) (Int32.toNatClampNeg 0) (Int32.toNatClampNeg r25) → (post q15_1 (Int32.toNatClampNeg a1x) g28_3 g_r))) (nI n_r) a1x)))) ∧ (a1x = (nI n_r) → False)
set_option maxHeartbeats 8000000 in
set_option maxRecDepth 100000 in
theorem w182_met (l : Launch) (dC : Nat → ClassId) (dI : Nat → Nat → Nat) (sz : Nat) (r0 : Nat) (n_r : Nat) (c_r : ClassId) (mc : Nat) (ms : Nat) (a1x : Int32) (g_r : Nat → Int32) (post : Nat → Nat → (Nat → Int32) → (Nat → Int32) → Prop) (hw : w182_wp n_r mc ms post a1x g_r) : Met l px_y182 px_s182 ({ frames := 1, cells := mc, slots := ms, locals := 21 }) (va_Pc [.ref r0, .int a1x] (fun U => U.heap.size = sz ∧ va_P (dC, dI) vwCl [(r0, .inl (c_r, n_r, .inl g_r))] U.heap ∧ va_K (dC, dI) vwCl [(c_r, .int)] U ∧ va_D (fun _ => True) [(r0, .inl (c_r, n_r, .inl g_r))] ∧ px_N U)) (va_Qq (fun (r : Option Nat) (u : Nat × Nat × (Nat → Int32) × (Nat → Int32)) => r = some u.1 ∧ post u.1 u.2.1 u.2.2.1 u.2.2.2) (fun (u : Nat × Nat × (Nat → Int32) × (Nat → Int32)) (t : State) => va_P (dC, dI) vwCl [(r0, .inl (c_r, n_r, .inl u.2.2.2)), (u.1, .inl (c_r, u.2.1, .inl u.2.2.1))] t.heap ∧ va_K (dC, dI) vwCl [(c_r, .int)] t ∧ va_D (va_A [(r0, .inl (c_r, n_r, .inl g_r))] sz) [(r0, .inl (c_r, n_r, .inl u.2.2.2)), (u.1, .inl (c_r, u.2.1, .inl u.2.2.1))]) (va_A [(r0, .inl (c_r, n_r, .inl g_r))] sz)) mc ms (va_A [(r0, .inl (c_r, n_r, .inl g_r))] sz) := by
  refine Met.ofW (cc := prog_33_method_123_code) (maxL := 3) (ret := (some (.array .int))) (by decide) rfl ?_
  intro p e s m args below meth c s₁ B hml hv
  obtain ⟨rfl, hsz, hP, hK, hD0, hN⟩ := hv
  have hx := B.exec
  have hb := B.bytes
  have hr := B.returns
  have htw : ∀ w ∈ px_all, w.before _ s = true := fun w h => atoms_spec (ws := px_s182) B.pre w (List.mem_cons_of_mem _ h)
  have hown : s.vm.findClass "java/util/Arrays" = some m.cls := findClass_of_methodNamed B.named
  have hlocks := B.notSynchronized
  subst hsz
  have hD := hD0.self (sz := s.heap.size)
  generalize hAe : va_A [(r0, .inl (c_r, n_r, .inl g_r))] s.heap.size = A at hD ⊢
  have hA : ∀ q : Nat, s.heap.size ≤ q → A q := fun q h => by rw [← hAe]; exact Or.inr h
  have hS : va_S A s.heap s.heap [] := va_S.rf
  have hP : va_P (dC, dI) vwCl [(r0, .inl (c_r, n_r, .inl g_r))] s.heap := hP
  have hl := lv_entry ([.ref r0, .int a1x]) (n := 3) (Nat.le_of_ble_eq_true rfl)
  rw [lg_entry_eq]
  generalize (lg_sl ([.ref r0, .int a1x]) ++ List.replicate (3 - (lg_sl ([.ref r0, .int a1x])).length) Slot.unset).toArray = ls at hl ⊢
  have hl : lv_has ls 3 [(0, .ref r0), (1, .int a1x)] := hl
  generalize hQ : MQ _ _ _ _ _ _ _ = Q
  unfold w182_wp at hw
  have hS0 := hS
  obtain ⟨H, hH9⟩ : ∃ z, z = s.heap := ⟨_, rfl⟩
  have hP : va_P (dC, dI) vwCl [(r0, .inl (c_r, n_r, .inl g_r))] H := by rw [hH9]; exact hP
  obtain ⟨locs, hlo9⟩ : ∃ z : List Loc, z = [] := ⟨_, rfl⟩
  have hS : va_S A s.heap H locs := by rw [hH9, hlo9]; exact hS
  suffices hG : W p l e (headSpec px_s182 ({ frames := 1, cells := mc, slots := ms, locals := 21 })).room s m ([.ref r0, .int a1x]).toArray below meth c H locs 0 0 Q (F0 m 0 ls []) by rw [hH9, hlo9] at hG; exact hG
  refine lv_iload_n hx hb px_d182_0 rfl (lv_at hl 1 rfl) ?_
  refine lv_aload_n hx hb px_d182_1 rfl (lv_at hl 0 rfl) ?_
  refine va_alen (v := nI n_r) hx hb hK hP 0 0 rfl rfl rfl px_d182_2 ?_
  refine lv_icmp_ne (tgt := 14) hx hb px_d182_3 (by decide) (fun c3 => ?_) (fun c3 => ?_)
  · have hw := hw.1 c3
    refine lv_iload_n hx hb px_d182_14 rfl (lv_at hl 1 rfl) ?_
    obtain ⟨hn15_1, hb15_1, hc15_1, hs15_1, hw⟩ := hw
    refine va_newa (atype := .int) (ty := .int) (n := a1x) (N' := Int32.toNatClampNeg a1x) (a0 := (Int32.toNatClampNeg a1x, .inl (fun _ => 0))) hx hb (htw _ px_w2) rfl hK hP hD hS hA (fun _ => rfl) hn15_1 rfl hb15_1 hc15_1 hs15_1 px_d182_15 (fun q15_1 cA9 H hK9 hP hD hS => ?_)
    have e9 := px_cAeq hK9 hK 0 rfl
    rw [e9] at hP hD
    have hw := hw q15_1
    have hP : va_P (dC, dI) vwCl [(r0, .inl (c_r, n_r, .inl g_r)), (q15_1, .inl (c_r, Int32.toNatClampNeg a1x, .inl (fun _ => 0)))] H := hP
    have hD : va_D A [(r0, .inl (c_r, n_r, .inl g_r)), (q15_1, .inl (c_r, Int32.toNatClampNeg a1x, .inl (fun _ => 0)))] := hD
    refine lv_astore_n (lv' := [(2, .ref q15_1), (0, .ref r0), (1, .int a1x)]) hx hb px_d182_17 rfl hl (by decide) rfl (fun ls hl => ?_)
    refine lv_aload_n hx hb px_d182_18 rfl (lv_at hl 1 rfl) ?_
    refine lv_iconst (v := 0) hx hb px_d182_19 (by decide) ?_
    refine lv_aload_n hx hb px_d182_20 rfl (lv_at hl 0 rfl) ?_
    refine lv_iconst (v := 0) hx hb px_d182_21 (by decide) ?_
    refine lv_aload_n hx hb px_d182_22 rfl (lv_at hl 1 rfl) ?_
    refine va_alen (v := nI n_r) hx hb hK hP 0 0 rfl rfl rfl px_d182_23 ?_
    refine lv_iload_n hx hb px_d182_24 rfl (lv_at hl 2 rfl) ?_
    have hPc := hP.sub (ws' := []) [] rfl
    have hDc := hD.sub (ws' := []) [] (by decide) rfl
    have hFc := va_free (wc := []) hD hS hA [] rfl
    have hKc := hK.sub (tys' := []) [] rfl
    refine va_calli (va_runS (As := [.int (nI n_r), .int a1x]) (rest := [.int 0, .ref q15_1, .int 0, .ref r0]) ⟨hx, hb, hml, hown, htw⟩ (w183_met l dC dI H.size (nI n_r) a1x _ hw) (va_cwS 2 htw (px_gs2 px_w1040 px_w1042 px_w1753 px_g183) rfl rfl rfl (by decide +kernel) ⟨Nat.le_of_ble_eq_true rfl, Nat.le_of_ble_eq_true rfl⟩) ⟨fun a U g mk q => by obtain ⟨q0, q1, qP, qK, qD, qN⟩ := q; exact ⟨q0, q1, qP, va_K.moved (u := U) (U := U.calling g mk a) (Vm.Alike.refl U.vm) qK, qD, qN.same rfl⟩, fun U hU hW => ⟨rfl, by rw [hU], by rw [hU]; exact hPc, va_K.moved hW.alike hKc, hDc.weaken (fun _ _ _ _ => trivial), hN.warm hW⟩⟩ rfl rfl hl.1 rfl (lv_room (Nat.le_of_ble_eq_true rfl)) px_d182_25 ⟨hc15_1, hs15_1⟩) hS (fun q _ h => hFc q h) hFc (fun r25 u t H1 locs ht hvm hw hB hz1 hk1 hS => ?_)
    obtain ⟨hP1, hK1, hD1⟩ := hB
    rw [ht] at hP1
    obtain ⟨hP, hD⟩ := va_join (wr := [(r0, .inl (c_r, n_r, .inl g_r)), (q15_1, .inl (c_r, Int32.toNatClampNeg a1x, .inl (fun _ => 0)))]) (w1 := []) hP hD [] [0, 1] rfl rfl (by decide) (by decide) hk1 hFc hP1 hD1
    generalize H1 = H at hP hS ⊢
    have hP : va_P (dC, dI) vwCl [(r0, .inl (c_r, n_r, .inl g_r)), (q15_1, .inl (c_r, Int32.toNatClampNeg a1x, .inl (fun _ => 0)))] H := hP
    have hD : va_D A [(r0, .inl (c_r, n_r, .inl g_r)), (q15_1, .inl (c_r, Int32.toNatClampNeg a1x, .inl (fun _ => 0)))] := hD
    obtain ⟨ha28, hb28, hc28, hd28, he28, hf28, hw⟩ := hw
    refine va_copyi hx hb (hml.trans hl.1.symm) hown (htw _ px_w1789) (htw _ px_w1791) (htw _ px_w1790) (htw _ px_w1754) hK hP hD hS 0 1 0 0 rfl rfl rfl rfl rfl ha28 hb28 hc28 hd28 he28 hf28 (Nat.le_of_ble_eq_true rfl) (Nat.le_of_ble_eq_true rfl) px_d182_28 (fun H locs hP hD hS => ?_)
    obtain ⟨g28_3, eg28_3⟩ : ∃ z, z = va_cpy g_r (fun _ => 0) (Int32.toNatClampNeg 0) (Int32.toNatClampNeg 0) (Int32.toNatClampNeg r25) := ⟨_, rfl⟩
    rw [← eg28_3] at hP hD
    have hw := hw g28_3 eg28_3
    have hP : va_P (dC, dI) vwCl [(r0, .inl (c_r, n_r, .inl g_r)), (q15_1, .inl (c_r, Int32.toNatClampNeg a1x, .inl g28_3))] H := hP
    have hD : va_D A [(r0, .inl (c_r, n_r, .inl g_r)), (q15_1, .inl (c_r, Int32.toNatClampNeg a1x, .inl g28_3))] := hD
    refine lv_aload_n hx hb px_d182_31 rfl (lv_at hl 0 rfl) ?_
    refine W.widen (k := mc) (n := ms) hc15_1 hs15_1 ?_
    rw [← hQ]
    exact W.aret hx hb hr (Or.inr ⟨_, rfl⟩) (Or.inr ⟨_, rfl⟩) (fun t ht hW => ⟨⟨some q15_1, (q15_1, Int32.toNatClampNeg a1x, g28_3, g_r), rfl, ⟨rfl, hw⟩, by rw [ht]; exact hP, va_K.moved hW.alike hK, hD⟩, hS.F ht⟩) hS.2.2 px_d182_32
  · have hw := hw.2 c3
    refine lv_aload_n hx hb px_d182_6 rfl (lv_at hl 0 rfl) ?_
    exact False.elim hw

/-! java/util/Arrays.copyOf([BI)[B -/
def w200_wp (n_r : Nat) (mc : Nat) (ms : Nat) (post : Nat → Nat → (Nat → Int32) → (Nat → Int32) → Prop) (a1x : Int32) (g_r : Nat → Int32) : Prop := (¬ a1x = (nI n_r) → ¬ a1x < 0 ∧ (Int32.toNatClampNeg a1x) * 1 ≤ 536870912 ∧ 0 + 1 ≤ mc ∧ 0 + (Int32.toNatClampNeg a1x) ≤ ms ∧ (∀ q15_1 : Nat, ((w183_wp (fun r25  => ¬ (0 : Int32) < 0 ∧ ¬ (0 : Int32) < 0 ∧ ¬ r25 < 0 ∧ Int32.toNatClampNeg 0 + Int32.toNatClampNeg r25 ≤ n_r ∧ Int32.toNatClampNeg 0 + Int32.toNatClampNeg r25 ≤ Int32.toNatClampNeg a1x ∧ (∀ i : Nat, i < Int32.toNatClampNeg r25 → fits .byte (.int (g_r (Int32.toNatClampNeg 0 + i))) = true) ∧ (∀ g28_3 : Nat → Int32, g28_3 = va_cpy g_r (fun _ => 0) (Int32.toNatClampNeg 0) (Int32.toNatClampNeg 0) (Int32.toNatClampNeg r25) → (post q15_1 (Int32.toNatClampNeg a1x) g28_3 g_r))) (nI n_r) a1x)))) ∧ (a1x = (nI n_r) → False)
set_option maxHeartbeats 8000000 in
set_option maxRecDepth 100000 in
theorem w200_met (l : Launch) (dC : Nat → ClassId) (dI : Nat → Nat → Nat) (sz : Nat) (r0 : Nat) (n_r : Nat) (c_r : ClassId) (mc : Nat) (ms : Nat) (a1x : Int32) (g_r : Nat → Int32) (post : Nat → Nat → (Nat → Int32) → (Nat → Int32) → Prop) (hw : w200_wp n_r mc ms post a1x g_r) : Met l px_y200 px_s200 ({ frames := 1, cells := mc, slots := ms, locals := 21 }) (va_Pc [.ref r0, .int a1x] (fun U => U.heap.size = sz ∧ va_P (dC, dI) vwCl [(r0, .inl (c_r, n_r, .inl g_r))] U.heap ∧ va_K (dC, dI) vwCl [(c_r, .byte)] U ∧ va_D (fun _ => True) [(r0, .inl (c_r, n_r, .inl g_r))] ∧ px_N U)) (va_Qq (fun (r : Option Nat) (u : Nat × Nat × (Nat → Int32) × (Nat → Int32)) => r = some u.1 ∧ post u.1 u.2.1 u.2.2.1 u.2.2.2) (fun (u : Nat × Nat × (Nat → Int32) × (Nat → Int32)) (t : State) => va_P (dC, dI) vwCl [(r0, .inl (c_r, n_r, .inl u.2.2.2)), (u.1, .inl (c_r, u.2.1, .inl u.2.2.1))] t.heap ∧ va_K (dC, dI) vwCl [(c_r, .byte)] t ∧ va_D (va_A [(r0, .inl (c_r, n_r, .inl g_r))] sz) [(r0, .inl (c_r, n_r, .inl u.2.2.2)), (u.1, .inl (c_r, u.2.1, .inl u.2.2.1))]) (va_A [(r0, .inl (c_r, n_r, .inl g_r))] sz)) mc ms (va_A [(r0, .inl (c_r, n_r, .inl g_r))] sz) := by
  refine Met.ofW (cc := prog_33_method_121_code) (maxL := 3) (ret := (some (.array .byte))) (by decide) rfl ?_
  intro p e s m args below meth c s₁ B hml hv
  obtain ⟨rfl, hsz, hP, hK, hD0, hN⟩ := hv
  have hx := B.exec
  have hb := B.bytes
  have hr := B.returns
  have htw : ∀ w ∈ px_all, w.before _ s = true := fun w h => atoms_spec (ws := px_s200) B.pre w (List.mem_cons_of_mem _ h)
  have hown : s.vm.findClass "java/util/Arrays" = some m.cls := findClass_of_methodNamed B.named
  have hlocks := B.notSynchronized
  subst hsz
  have hD := hD0.self (sz := s.heap.size)
  generalize hAe : va_A [(r0, .inl (c_r, n_r, .inl g_r))] s.heap.size = A at hD ⊢
  have hA : ∀ q : Nat, s.heap.size ≤ q → A q := fun q h => by rw [← hAe]; exact Or.inr h
  have hS : va_S A s.heap s.heap [] := va_S.rf
  have hP : va_P (dC, dI) vwCl [(r0, .inl (c_r, n_r, .inl g_r))] s.heap := hP
  have hl := lv_entry ([.ref r0, .int a1x]) (n := 3) (Nat.le_of_ble_eq_true rfl)
  rw [lg_entry_eq]
  generalize (lg_sl ([.ref r0, .int a1x]) ++ List.replicate (3 - (lg_sl ([.ref r0, .int a1x])).length) Slot.unset).toArray = ls at hl ⊢
  have hl : lv_has ls 3 [(0, .ref r0), (1, .int a1x)] := hl
  generalize hQ : MQ _ _ _ _ _ _ _ = Q
  unfold w200_wp at hw
  have hS0 := hS
  obtain ⟨H, hH9⟩ : ∃ z, z = s.heap := ⟨_, rfl⟩
  have hP : va_P (dC, dI) vwCl [(r0, .inl (c_r, n_r, .inl g_r))] H := by rw [hH9]; exact hP
  obtain ⟨locs, hlo9⟩ : ∃ z : List Loc, z = [] := ⟨_, rfl⟩
  have hS : va_S A s.heap H locs := by rw [hH9, hlo9]; exact hS
  suffices hG : W p l e (headSpec px_s200 ({ frames := 1, cells := mc, slots := ms, locals := 21 })).room s m ([.ref r0, .int a1x]).toArray below meth c H locs 0 0 Q (F0 m 0 ls []) by rw [hH9, hlo9] at hG; exact hG
  refine lv_iload_n hx hb px_d200_0 rfl (lv_at hl 1 rfl) ?_
  refine lv_aload_n hx hb px_d200_1 rfl (lv_at hl 0 rfl) ?_
  refine va_alen (v := nI n_r) hx hb hK hP 0 0 rfl rfl rfl px_d200_2 ?_
  refine lv_icmp_ne (tgt := 14) hx hb px_d200_3 (by decide) (fun c3 => ?_) (fun c3 => ?_)
  · have hw := hw.1 c3
    refine lv_iload_n hx hb px_d200_14 rfl (lv_at hl 1 rfl) ?_
    obtain ⟨hn15_1, hb15_1, hc15_1, hs15_1, hw⟩ := hw
    refine va_newa (atype := .byte) (ty := .byte) (n := a1x) (N' := Int32.toNatClampNeg a1x) (a0 := (Int32.toNatClampNeg a1x, .inl (fun _ => 0))) hx hb (htw _ px_w3) rfl hK hP hD hS hA (fun _ => rfl) hn15_1 rfl hb15_1 hc15_1 hs15_1 px_d200_15 (fun q15_1 cA9 H hK9 hP hD hS => ?_)
    have e9 := px_cAeq hK9 hK 0 rfl
    rw [e9] at hP hD
    have hw := hw q15_1
    have hP : va_P (dC, dI) vwCl [(r0, .inl (c_r, n_r, .inl g_r)), (q15_1, .inl (c_r, Int32.toNatClampNeg a1x, .inl (fun _ => 0)))] H := hP
    have hD : va_D A [(r0, .inl (c_r, n_r, .inl g_r)), (q15_1, .inl (c_r, Int32.toNatClampNeg a1x, .inl (fun _ => 0)))] := hD
    refine lv_astore_n (lv' := [(2, .ref q15_1), (0, .ref r0), (1, .int a1x)]) hx hb px_d200_17 rfl hl (by decide) rfl (fun ls hl => ?_)
    refine lv_aload_n hx hb px_d200_18 rfl (lv_at hl 1 rfl) ?_
    refine lv_iconst (v := 0) hx hb px_d200_19 (by decide) ?_
    refine lv_aload_n hx hb px_d200_20 rfl (lv_at hl 0 rfl) ?_
    refine lv_iconst (v := 0) hx hb px_d200_21 (by decide) ?_
    refine lv_aload_n hx hb px_d200_22 rfl (lv_at hl 1 rfl) ?_
    refine va_alen (v := nI n_r) hx hb hK hP 0 0 rfl rfl rfl px_d200_23 ?_
    refine lv_iload_n hx hb px_d200_24 rfl (lv_at hl 2 rfl) ?_
    have hPc := hP.sub (ws' := []) [] rfl
    have hDc := hD.sub (ws' := []) [] (by decide) rfl
    have hFc := va_free (wc := []) hD hS hA [] rfl
    have hKc := hK.sub (tys' := []) [] rfl
    refine va_calli (va_runS (As := [.int (nI n_r), .int a1x]) (rest := [.int 0, .ref q15_1, .int 0, .ref r0]) ⟨hx, hb, hml, hown, htw⟩ (w183_met l dC dI H.size (nI n_r) a1x _ hw) (va_cwS 2 htw (px_gs2 px_w1040 px_w1042 px_w1753 px_g183) rfl rfl rfl (by decide +kernel) ⟨Nat.le_of_ble_eq_true rfl, Nat.le_of_ble_eq_true rfl⟩) ⟨fun a U g mk q => by obtain ⟨q0, q1, qP, qK, qD, qN⟩ := q; exact ⟨q0, q1, qP, va_K.moved (u := U) (U := U.calling g mk a) (Vm.Alike.refl U.vm) qK, qD, qN.same rfl⟩, fun U hU hW => ⟨rfl, by rw [hU], by rw [hU]; exact hPc, va_K.moved hW.alike hKc, hDc.weaken (fun _ _ _ _ => trivial), hN.warm hW⟩⟩ rfl rfl hl.1 rfl (lv_room (Nat.le_of_ble_eq_true rfl)) px_d200_25 ⟨hc15_1, hs15_1⟩) hS (fun q _ h => hFc q h) hFc (fun r25 u t H1 locs ht hvm hw hB hz1 hk1 hS => ?_)
    obtain ⟨hP1, hK1, hD1⟩ := hB
    rw [ht] at hP1
    obtain ⟨hP, hD⟩ := va_join (wr := [(r0, .inl (c_r, n_r, .inl g_r)), (q15_1, .inl (c_r, Int32.toNatClampNeg a1x, .inl (fun _ => 0)))]) (w1 := []) hP hD [] [0, 1] rfl rfl (by decide) (by decide) hk1 hFc hP1 hD1
    generalize H1 = H at hP hS ⊢
    have hP : va_P (dC, dI) vwCl [(r0, .inl (c_r, n_r, .inl g_r)), (q15_1, .inl (c_r, Int32.toNatClampNeg a1x, .inl (fun _ => 0)))] H := hP
    have hD : va_D A [(r0, .inl (c_r, n_r, .inl g_r)), (q15_1, .inl (c_r, Int32.toNatClampNeg a1x, .inl (fun _ => 0)))] := hD
    obtain ⟨ha28, hb28, hc28, hd28, he28, hf28, hw⟩ := hw
    refine va_copyi hx hb (hml.trans hl.1.symm) hown (htw _ px_w1789) (htw _ px_w1791) (htw _ px_w1790) (htw _ px_w1754) hK hP hD hS 0 1 0 0 rfl rfl rfl rfl rfl ha28 hb28 hc28 hd28 he28 hf28 (Nat.le_of_ble_eq_true rfl) (Nat.le_of_ble_eq_true rfl) px_d200_28 (fun H locs hP hD hS => ?_)
    obtain ⟨g28_3, eg28_3⟩ : ∃ z, z = va_cpy g_r (fun _ => 0) (Int32.toNatClampNeg 0) (Int32.toNatClampNeg 0) (Int32.toNatClampNeg r25) := ⟨_, rfl⟩
    rw [← eg28_3] at hP hD
    have hw := hw g28_3 eg28_3
    have hP : va_P (dC, dI) vwCl [(r0, .inl (c_r, n_r, .inl g_r)), (q15_1, .inl (c_r, Int32.toNatClampNeg a1x, .inl g28_3))] H := hP
    have hD : va_D A [(r0, .inl (c_r, n_r, .inl g_r)), (q15_1, .inl (c_r, Int32.toNatClampNeg a1x, .inl g28_3))] := hD
    refine lv_aload_n hx hb px_d200_31 rfl (lv_at hl 0 rfl) ?_
    refine W.widen (k := mc) (n := ms) hc15_1 hs15_1 ?_
    rw [← hQ]
    exact W.aret hx hb hr (Or.inr ⟨_, rfl⟩) (Or.inr ⟨_, rfl⟩) (fun t ht hW => ⟨⟨some q15_1, (q15_1, Int32.toNatClampNeg a1x, g28_3, g_r), rfl, ⟨rfl, hw⟩, by rw [ht]; exact hP, va_K.moved hW.alike hK, hD⟩, hS.F ht⟩) hS.2.2 px_d200_32
  · have hw := hw.2 c3
    refine lv_aload_n hx hb px_d200_6 rfl (lv_at hl 0 rfl) ?_
    exact False.elim hw

/-! MatroidDesk$Orders.set(II)I -/
def w240_wp (post : Int32 → Nat → Nat → Int32 → (Nat → Int32) → (Nat → Int32) → Prop) (a1x : Int32) (a2x : Int32) (q_o : Nat) (l_o : Nat) (o_reached : Int32) (g_o : Nat → Int32) (g_t : Nat → Int32) : Prop := vp_in (((1 : Int32) <<< (a1x &&& 31)) + a2x) l_o ∧ (post (g_o (Int32.toNatClampNeg (((1 : Int32) <<< (a1x &&& 31)) + a2x))) q_o l_o o_reached g_o g_t)
set_option maxHeartbeats 8000000 in
set_option maxRecDepth 100000 in
theorem w240_met (l : Launch) (dC : Nat → ClassId) (dI : Nat → Nat → Nat) (sz : Nat) (ho : Nat) (q_t : Nat) (c_i : ClassId) (a1x : Int32) (a2x : Int32) (q_o : Nat) (l_o : Nat) (o_reached : Int32) (g_o : Nat → Int32) (g_t : Nat → Int32) (post : Int32 → Nat → Nat → Int32 → (Nat → Int32) → (Nat → Int32) → Prop) (hw : w240_wp post a1x a2x q_o l_o o_reached g_o g_t) : Met l px_y240 px_s240 ({ frames := 0, cells := 0, slots := 0, locals := 0 }) (va_Pc [.ref ho, .int a1x, .int a2x] (fun U => U.heap.size = sz ∧ va_P (dC, dI) vwCl [(ho, .inr (1, [.ref q_o, .ref q_t, .int o_reached])), (q_o, .inl (c_i, l_o, .inl g_o)), (q_t, .inl (c_i, 182, .inl g_t))] U.heap ∧ va_K (dC, dI) vwCl [(c_i, .int)] U ∧ va_D (fun _ => True) [(ho, .inr (1, [.ref q_o, .ref q_t, .int o_reached])), (q_o, .inl (c_i, l_o, .inl g_o)), (q_t, .inl (c_i, 182, .inl g_t))] ∧ px_N U)) (va_Qi (fun (r : Int32) (u : Nat × Nat × Int32 × (Nat → Int32) × (Nat → Int32)) => post r u.1 u.2.1 u.2.2.1 u.2.2.2.1 u.2.2.2.2) (fun (u : Nat × Nat × Int32 × (Nat → Int32) × (Nat → Int32)) (t : State) => va_P (dC, dI) vwCl [(ho, .inr (1, [.ref u.1, .ref q_t, .int u.2.2.1])), (u.1, .inl (c_i, u.2.1, .inl u.2.2.2.1)), (q_t, .inl (c_i, 182, .inl u.2.2.2.2))] t.heap ∧ va_K (dC, dI) vwCl [(c_i, .int)] t ∧ va_D (va_A [(ho, .inr (1, [.ref q_o, .ref q_t, .int o_reached])), (q_o, .inl (c_i, l_o, .inl g_o)), (q_t, .inl (c_i, 182, .inl g_t))] sz) [(ho, .inr (1, [.ref u.1, .ref q_t, .int u.2.2.1])), (u.1, .inl (c_i, u.2.1, .inl u.2.2.2.1)), (q_t, .inl (c_i, 182, .inl u.2.2.2.2))]) (va_A [(ho, .inr (1, [.ref q_o, .ref q_t, .int o_reached])), (q_o, .inl (c_i, l_o, .inl g_o)), (q_t, .inl (c_i, 182, .inl g_t))] sz)) 0 0 (va_A [(ho, .inr (1, [.ref q_o, .ref q_t, .int o_reached])), (q_o, .inl (c_i, l_o, .inl g_o)), (q_t, .inl (c_i, 182, .inl g_t))] sz) := by
  refine Met.ofW (cc := prog_5_method_3_code) (maxL := 3) (ret := (some .int)) (by decide) rfl ?_
  intro p e s m args below meth c s₁ B hml hv
  obtain ⟨rfl, hsz, hP, hK, hD0, hN⟩ := hv
  have hx := B.exec
  have hb := B.bytes
  have hr := B.returns
  have htw : ∀ w ∈ px_all, w.before _ s = true := fun w h => atoms_spec (ws := px_s240) B.pre w (List.mem_cons_of_mem _ h)
  have hown : s.vm.findClass "MatroidDesk$Orders" = some m.cls := findClass_of_methodNamed B.named
  have hlocks := B.notSynchronized
  subst hsz
  have hD := hD0.self (sz := s.heap.size)
  generalize hAe : va_A [(ho, .inr (1, [.ref q_o, .ref q_t, .int o_reached])), (q_o, .inl (c_i, l_o, .inl g_o)), (q_t, .inl (c_i, 182, .inl g_t))] s.heap.size = A at hD ⊢
  have hA : ∀ q : Nat, s.heap.size ≤ q → A q := fun q h => by rw [← hAe]; exact Or.inr h
  have hS : va_S A s.heap s.heap [] := va_S.rf
  have hP : va_P (dC, dI) vwCl [(ho, .inr (1, [.ref q_o, .ref q_t, .int o_reached])), (q_o, .inl (c_i, l_o, .inl g_o)), (q_t, .inl (c_i, 182, .inl g_t))] s.heap := hP
  have hl := lv_entry ([.ref ho, .int a1x, .int a2x]) (n := 3) (Nat.le_of_ble_eq_true rfl)
  rw [lg_entry_eq]
  generalize (lg_sl ([.ref ho, .int a1x, .int a2x]) ++ List.replicate (3 - (lg_sl ([.ref ho, .int a1x, .int a2x])).length) Slot.unset).toArray = ls at hl ⊢
  have hl : lv_has ls 3 [(0, .ref ho), (1, .int a1x), (2, .int a2x)] := hl
  generalize hQ : MQ _ _ _ _ _ _ _ = Q
  unfold w240_wp at hw
  have hS0 := hS
  obtain ⟨H, hH9⟩ : ∃ z, z = s.heap := ⟨_, rfl⟩
  have hP : va_P (dC, dI) vwCl [(ho, .inr (1, [.ref q_o, .ref q_t, .int o_reached])), (q_o, .inl (c_i, l_o, .inl g_o)), (q_t, .inl (c_i, 182, .inl g_t))] H := by rw [hH9]; exact hP
  obtain ⟨locs, hlo9⟩ : ∃ z : List Loc, z = [] := ⟨_, rfl⟩
  have hS : va_S A s.heap H locs := by rw [hH9, hlo9]; exact hS
  suffices hG : W p l e (headSpec px_s240 ({ frames := 0, cells := 0, slots := 0, locals := 0 })).room s m ([.ref ho, .int a1x, .int a2x]).toArray below meth c H locs 0 0 Q (F0 m 0 ls []) by rw [hH9, hlo9] at hG; exact hG
  refine lv_aload_n hx hb px_d240_0 rfl (lv_at hl 0 rfl) ?_
  refine va_get (D := (dC, dI)) (ci := 1) (v := .ref q_o) (C := "MatroidDesk$Orders") (T := px_T1) (N := 3) hx hb htw px_in1 hown hK hP 0 rfl rfl 0 (by decide) (htw _ px_w190) (fun _ h9 => h9) rfl px_d240_1 ?_
  refine lv_iconst (v := 1) hx hb px_d240_4 (by decide) ?_
  refine lv_iload_n hx hb px_d240_5 rfl (lv_at hl 1 rfl) ?_
  refine lv_ishl hx hb px_d240_6 ?_
  refine lv_iload_n hx hb px_d240_7 rfl (lv_at hl 2 rfl) ?_
  refine lv_iadd hx hb px_d240_8 ?_
  obtain ⟨hi9, hw⟩ := hw
  refine va_iald hx hb hK hP 1 0 rfl rfl hi9 px_d240_9 ?_
  rw [← hQ]
  exact W.iret (v := g_o (Int32.toNatClampNeg (((1 : Int32) <<< (a1x &&& 31)) + a2x))) hx hb hr (fun t ht hW => ⟨⟨g_o (Int32.toNatClampNeg (((1 : Int32) <<< (a1x &&& 31)) + a2x)), (q_o, l_o, o_reached, g_o, g_t), rfl, hw, by rw [ht]; exact hP, va_K.moved hW.alike hK, hD⟩, hS.F ht⟩) hS.2.2 px_d240_10

/-! MatroidDesk$Orders.start(II)I -/
def w239_wp (post : Int32 → Nat → Nat → Int32 → (Nat → Int32) → (Nat → Int32) → Prop) (a1x : Int32) (a2x : Int32) (q_o : Nat) (l_o : Nat) (o_reached : Int32) (g_o : Nat → Int32) (g_t : Nat → Int32) : Prop := vp_in ((a1x * 14) + a2x) 182 ∧ (post (g_t (Int32.toNatClampNeg ((a1x * 14) + a2x))) q_o l_o o_reached g_o g_t)
set_option maxHeartbeats 8000000 in
set_option maxRecDepth 100000 in
theorem w239_met (l : Launch) (dC : Nat → ClassId) (dI : Nat → Nat → Nat) (sz : Nat) (ho : Nat) (q_t : Nat) (c_i : ClassId) (a1x : Int32) (a2x : Int32) (q_o : Nat) (l_o : Nat) (o_reached : Int32) (g_o : Nat → Int32) (g_t : Nat → Int32) (post : Int32 → Nat → Nat → Int32 → (Nat → Int32) → (Nat → Int32) → Prop) (hw : w239_wp post a1x a2x q_o l_o o_reached g_o g_t) : Met l px_y239 px_s239 ({ frames := 0, cells := 0, slots := 0, locals := 0 }) (va_Pc [.ref ho, .int a1x, .int a2x] (fun U => U.heap.size = sz ∧ va_P (dC, dI) vwCl [(ho, .inr (1, [.ref q_o, .ref q_t, .int o_reached])), (q_o, .inl (c_i, l_o, .inl g_o)), (q_t, .inl (c_i, 182, .inl g_t))] U.heap ∧ va_K (dC, dI) vwCl [(c_i, .int)] U ∧ va_D (fun _ => True) [(ho, .inr (1, [.ref q_o, .ref q_t, .int o_reached])), (q_o, .inl (c_i, l_o, .inl g_o)), (q_t, .inl (c_i, 182, .inl g_t))] ∧ px_N U)) (va_Qi (fun (r : Int32) (u : Nat × Nat × Int32 × (Nat → Int32) × (Nat → Int32)) => post r u.1 u.2.1 u.2.2.1 u.2.2.2.1 u.2.2.2.2) (fun (u : Nat × Nat × Int32 × (Nat → Int32) × (Nat → Int32)) (t : State) => va_P (dC, dI) vwCl [(ho, .inr (1, [.ref u.1, .ref q_t, .int u.2.2.1])), (u.1, .inl (c_i, u.2.1, .inl u.2.2.2.1)), (q_t, .inl (c_i, 182, .inl u.2.2.2.2))] t.heap ∧ va_K (dC, dI) vwCl [(c_i, .int)] t ∧ va_D (va_A [(ho, .inr (1, [.ref q_o, .ref q_t, .int o_reached])), (q_o, .inl (c_i, l_o, .inl g_o)), (q_t, .inl (c_i, 182, .inl g_t))] sz) [(ho, .inr (1, [.ref u.1, .ref q_t, .int u.2.2.1])), (u.1, .inl (c_i, u.2.1, .inl u.2.2.2.1)), (q_t, .inl (c_i, 182, .inl u.2.2.2.2))]) (va_A [(ho, .inr (1, [.ref q_o, .ref q_t, .int o_reached])), (q_o, .inl (c_i, l_o, .inl g_o)), (q_t, .inl (c_i, 182, .inl g_t))] sz)) 0 0 (va_A [(ho, .inr (1, [.ref q_o, .ref q_t, .int o_reached])), (q_o, .inl (c_i, l_o, .inl g_o)), (q_t, .inl (c_i, 182, .inl g_t))] sz) := by
  refine Met.ofW (cc := prog_5_method_4_code) (maxL := 3) (ret := (some .int)) (by decide) rfl ?_
  intro p e s m args below meth c s₁ B hml hv
  obtain ⟨rfl, hsz, hP, hK, hD0, hN⟩ := hv
  have hx := B.exec
  have hb := B.bytes
  have hr := B.returns
  have htw : ∀ w ∈ px_all, w.before _ s = true := fun w h => atoms_spec (ws := px_s239) B.pre w (List.mem_cons_of_mem _ h)
  have hown : s.vm.findClass "MatroidDesk$Orders" = some m.cls := findClass_of_methodNamed B.named
  have hlocks := B.notSynchronized
  subst hsz
  have hD := hD0.self (sz := s.heap.size)
  generalize hAe : va_A [(ho, .inr (1, [.ref q_o, .ref q_t, .int o_reached])), (q_o, .inl (c_i, l_o, .inl g_o)), (q_t, .inl (c_i, 182, .inl g_t))] s.heap.size = A at hD ⊢
  have hA : ∀ q : Nat, s.heap.size ≤ q → A q := fun q h => by rw [← hAe]; exact Or.inr h
  have hS : va_S A s.heap s.heap [] := va_S.rf
  have hP : va_P (dC, dI) vwCl [(ho, .inr (1, [.ref q_o, .ref q_t, .int o_reached])), (q_o, .inl (c_i, l_o, .inl g_o)), (q_t, .inl (c_i, 182, .inl g_t))] s.heap := hP
  have hl := lv_entry ([.ref ho, .int a1x, .int a2x]) (n := 3) (Nat.le_of_ble_eq_true rfl)
  rw [lg_entry_eq]
  generalize (lg_sl ([.ref ho, .int a1x, .int a2x]) ++ List.replicate (3 - (lg_sl ([.ref ho, .int a1x, .int a2x])).length) Slot.unset).toArray = ls at hl ⊢
  have hl : lv_has ls 3 [(0, .ref ho), (1, .int a1x), (2, .int a2x)] := hl
  generalize hQ : MQ _ _ _ _ _ _ _ = Q
  unfold w239_wp at hw
  have hS0 := hS
  obtain ⟨H, hH9⟩ : ∃ z, z = s.heap := ⟨_, rfl⟩
  have hP : va_P (dC, dI) vwCl [(ho, .inr (1, [.ref q_o, .ref q_t, .int o_reached])), (q_o, .inl (c_i, l_o, .inl g_o)), (q_t, .inl (c_i, 182, .inl g_t))] H := by rw [hH9]; exact hP
  obtain ⟨locs, hlo9⟩ : ∃ z : List Loc, z = [] := ⟨_, rfl⟩
  have hS : va_S A s.heap H locs := by rw [hH9, hlo9]; exact hS
  suffices hG : W p l e (headSpec px_s239 ({ frames := 0, cells := 0, slots := 0, locals := 0 })).room s m ([.ref ho, .int a1x, .int a2x]).toArray below meth c H locs 0 0 Q (F0 m 0 ls []) by rw [hH9, hlo9] at hG; exact hG
  refine lv_aload_n hx hb px_d239_0 rfl (lv_at hl 0 rfl) ?_
  refine va_get (D := (dC, dI)) (ci := 1) (v := .ref q_t) (C := "MatroidDesk$Orders") (T := px_T1) (N := 3) hx hb htw px_in1 hown hK hP 0 rfl rfl 1 (by decide) (htw _ px_w191) (fun _ h9 => h9) rfl px_d239_1 ?_
  refine lv_iload_n hx hb px_d239_4 rfl (lv_at hl 1 rfl) ?_
  refine lv_bipush (v := 14) hx hb px_d239_5 (by decide) ?_
  refine lv_imul hx hb px_d239_7 ?_
  refine lv_iload_n hx hb px_d239_8 rfl (lv_at hl 2 rfl) ?_
  refine lv_iadd hx hb px_d239_9 ?_
  obtain ⟨hi10, hw⟩ := hw
  refine va_iald hx hb hK hP 2 0 rfl rfl hi10 px_d239_10 ?_
  rw [← hQ]
  exact W.iret (v := g_t (Int32.toNatClampNeg ((a1x * 14) + a2x))) hx hb hr (fun t ht hW => ⟨⟨g_t (Int32.toNatClampNeg ((a1x * 14) + a2x)), (q_o, l_o, o_reached, g_o, g_t), rfl, hw, by rw [ht]; exact hP, va_K.moved hW.alike hK, hD⟩, hS.F ht⟩) hS.2.2 px_d239_11

/-! MatroidDesk$Orders.build(I)V -/
def w184_L93 (K13 : Int32 → Int32 → Int32 → Int32 → Nat → Nat → Int32 → (Nat → Int32) → (Nat → Int32) → Prop) (K39 : Int32 → Int32 → Int32 → Int32 → Int32 → Nat → Nat → Int32 → (Nat → Int32) → (Nat → Int32) → Prop) (post : Nat → Nat → Int32 → (Nat → Int32) → (Nat → Int32) → Prop) : Nat → Int32 → Int32 → Int32 → Int32 → Int32 → Int32 → Int32 → Int32 → Nat → Nat → Int32 → (Nat → Int32) → (Nat → Int32) → Prop
  | 0 => fun _ _ _ _ _ _ _ _ _ _ _ _ _ => False
  | k + 1 => fun x1 x2 x3 x4 x5 x6 x7 x8 q_o l_o o_reached g_o g_t => (x7 ≤ x8 → ∀ z1 : Int32, z1 = x5 + (-1) → K39 x1 x2 x3 x4 z1 q_o l_o o_reached g_o g_t) ∧ (¬ x7 ≤ x8 → vp_in (x2 + x8) l_o ∧ (∀ z2 : Int32, z2 = ((g_o (Int32.toNatClampNeg (x2 + x8))) <<< (1 &&& 31)) ||| x5 → vp_in x3 l_o ∧ (∀ z3 : Int32, z3 = x3 + 1 → ∀ z4 : Int32, z4 = x8 + 1 → (w184_L93 K13 K39 post k) x1 x2 z3 x4 x5 x6 x7 z4 q_o l_o o_reached (upd g_o (Int32.toNatClampNeg x3) z2) g_t)))
def w184_L82 (K13 : Int32 → Int32 → Int32 → Int32 → Nat → Nat → Int32 → (Nat → Int32) → (Nat → Int32) → Prop) (K39 : Int32 → Int32 → Int32 → Int32 → Int32 → Nat → Nat → Int32 → (Nat → Int32) → (Nat → Int32) → Prop) (post : Nat → Nat → Int32 → (Nat → Int32) → (Nat → Int32) → Prop) (x1 : Int32) (x2 : Int32) (x3 : Int32) (x4 : Int32) (x5 : Int32) (x6 : Int32) (y0 : Int32) (q_o : Nat) (l_o : Nat) (o_reached : Int32) (g_o : Nat → Int32) (g_t : Nat → Int32) : Prop := vp_in x6 182 ∧ (∀ z5 : Int32, z5 = g_t (Int32.toNatClampNeg x6) → ∃ j93, w184_L93 K13 K39 post j93 x1 x2 x3 x4 x5 x6 y0 z5 q_o l_o o_reached g_o g_t)
def w184_L39 (K13 : Int32 → Int32 → Int32 → Int32 → Nat → Nat → Int32 → (Nat → Int32) → (Nat → Int32) → Prop) (post : Nat → Nat → Int32 → (Nat → Int32) → (Nat → Int32) → Prop) : Nat → Int32 → Int32 → Int32 → Int32 → Int32 → Nat → Nat → Int32 → (Nat → Int32) → (Nat → Int32) → Prop
  | 0 => fun _ _ _ _ _ _ _ _ _ _ => False
  | k + 1 => fun x1 x2 x3 x4 x5 q_o l_o o_reached g_o g_t => (x5 < 0 → ∀ z6 : Int32, z6 = x4 + 1 → K13 x1 x2 x3 z6 q_o l_o o_reached g_o g_t) ∧ (¬ x5 < 0 → w185_wp (fun r56  => ∀ z7 : Int32, z7 = ((x1 - 1) * 14) + r56 → (x5 ≤ x4 → vp_in (z7 + 1) 182 ∧ (w184_L82 K13 (w184_L39 K13 post k) post x1 x2 x3 x4 x5 z7 (g_t (Int32.toNatClampNeg (z7 + 1))) q_o l_o o_reached g_o g_t)) ∧ (¬ x5 ≤ x4 → w184_L82 K13 (w184_L39 K13 post k) post x1 x2 x3 x4 x5 z7 0 q_o l_o o_reached g_o g_t)) 0 (x4 - x5))
def w184_L13 (post : Nat → Nat → Int32 → (Nat → Int32) → (Nat → Int32) → Prop) : Nat → Int32 → Int32 → Int32 → Int32 → Nat → Nat → Int32 → (Nat → Int32) → (Nat → Int32) → Prop
  | 0 => fun _ _ _ _ _ _ _ _ _ => False
  | k + 1 => fun x1 x2 x3 x4 q_o l_o o_reached g_o g_t => (x1 < x4 → ∀ z8 : Int32, z8 = (1 : Int32) <<< (x1 &&& 31) → vp_in (((x1 * 14) + x1) + 1) 182 ∧ (post q_o l_o o_reached g_o (upd g_t (Int32.toNatClampNeg (((x1 * 14) + x1) + 1)) z8))) ∧ (¬ x1 < x4 → ∀ z9 : Int32, z9 = x3 - ((1 : Int32) <<< (x1 &&& 31)) → vp_in ((x1 * 14) + x4) 182 ∧ (∃ j39, w184_L39 (w184_L13 post k) post j39 x1 x2 x3 x4 1 q_o l_o o_reached g_o (upd g_t (Int32.toNatClampNeg ((x1 * 14) + x4)) z9)))
def w184_wp (post : Nat → Nat → Int32 → (Nat → Int32) → (Nat → Int32) → Prop) (a1x : Int32) (q_o : Nat) (l_o : Nat) (o_reached : Int32) (g_o : Nat → Int32) (g_t : Nat → Int32) : Prop := ∀ z10 : Int32, z10 = (1 : Int32) <<< ((a1x - 1) &&& 31) → ∀ z11 : Int32, z11 = (1 : Int32) <<< (a1x &&& 31) → ∃ j13, w184_L13 post j13 a1x z10 z11 0 q_o l_o o_reached g_o g_t
set_option maxHeartbeats 8000000 in
set_option maxRecDepth 100000 in
theorem w184_met (l : Launch) (dC : Nat → ClassId) (dI : Nat → Nat → Nat) (sz : Nat) (ho : Nat) (q_t : Nat) (c_i : ClassId) (a1x : Int32) (q_o : Nat) (l_o : Nat) (o_reached : Int32) (g_o : Nat → Int32) (g_t : Nat → Int32) (post : Nat → Nat → Int32 → (Nat → Int32) → (Nat → Int32) → Prop) (hw : w184_wp post a1x q_o l_o o_reached g_o g_t) : Met l px_y184 px_s184 ({ frames := 1, cells := 0, slots := 0, locals := 21 }) (va_Pc [.ref ho, .int a1x] (fun U => U.heap.size = sz ∧ va_P (dC, dI) vwCl [(ho, .inr (1, [.ref q_o, .ref q_t, .int o_reached])), (q_o, .inl (c_i, l_o, .inl g_o)), (q_t, .inl (c_i, 182, .inl g_t))] U.heap ∧ va_K (dC, dI) vwCl [(c_i, .int)] U ∧ va_D (fun _ => True) [(ho, .inr (1, [.ref q_o, .ref q_t, .int o_reached])), (q_o, .inl (c_i, l_o, .inl g_o)), (q_t, .inl (c_i, 182, .inl g_t))] ∧ px_N U)) (va_Qv (fun (u : Nat × Nat × Int32 × (Nat → Int32) × (Nat → Int32)) => post u.1 u.2.1 u.2.2.1 u.2.2.2.1 u.2.2.2.2) (fun (u : Nat × Nat × Int32 × (Nat → Int32) × (Nat → Int32)) (t : State) => va_P (dC, dI) vwCl [(ho, .inr (1, [.ref u.1, .ref q_t, .int u.2.2.1])), (u.1, .inl (c_i, u.2.1, .inl u.2.2.2.1)), (q_t, .inl (c_i, 182, .inl u.2.2.2.2))] t.heap ∧ va_K (dC, dI) vwCl [(c_i, .int)] t ∧ va_D (va_A [(ho, .inr (1, [.ref q_o, .ref q_t, .int o_reached])), (q_o, .inl (c_i, l_o, .inl g_o)), (q_t, .inl (c_i, 182, .inl g_t))] sz) [(ho, .inr (1, [.ref u.1, .ref q_t, .int u.2.2.1])), (u.1, .inl (c_i, u.2.1, .inl u.2.2.2.1)), (q_t, .inl (c_i, 182, .inl u.2.2.2.2))]) (va_A [(ho, .inr (1, [.ref q_o, .ref q_t, .int o_reached])), (q_o, .inl (c_i, l_o, .inl g_o)), (q_t, .inl (c_i, 182, .inl g_t))] sz)) 0 0 (va_A [(ho, .inr (1, [.ref q_o, .ref q_t, .int o_reached])), (q_o, .inl (c_i, l_o, .inl g_o)), (q_t, .inl (c_i, 182, .inl g_t))] sz) := by
  refine Met.ofW (cc := prog_5_method_5_code) (maxL := 9) (ret := none) (by decide) rfl ?_
  intro p e s m args below meth c s₁ B hml hv
  obtain ⟨rfl, hsz, hP, hK, hD0, hN⟩ := hv
  have hx := B.exec
  have hb := B.bytes
  have hr := B.returns
  have htw : ∀ w ∈ px_all, w.before _ s = true := fun w h => atoms_spec (ws := px_s184) B.pre w (List.mem_cons_of_mem _ h)
  have hown : s.vm.findClass "MatroidDesk$Orders" = some m.cls := findClass_of_methodNamed B.named
  have hlocks := B.notSynchronized
  subst hsz
  have hD := hD0.self (sz := s.heap.size)
  generalize hAe : va_A [(ho, .inr (1, [.ref q_o, .ref q_t, .int o_reached])), (q_o, .inl (c_i, l_o, .inl g_o)), (q_t, .inl (c_i, 182, .inl g_t))] s.heap.size = A at hD ⊢
  have hA : ∀ q : Nat, s.heap.size ≤ q → A q := fun q h => by rw [← hAe]; exact Or.inr h
  have hS : va_S A s.heap s.heap [] := va_S.rf
  have hP : va_P (dC, dI) vwCl [(ho, .inr (1, [.ref q_o, .ref q_t, .int o_reached])), (q_o, .inl (c_i, l_o, .inl g_o)), (q_t, .inl (c_i, 182, .inl g_t))] s.heap := hP
  have hl := lv_entry ([.ref ho, .int a1x]) (n := 9) (Nat.le_of_ble_eq_true rfl)
  rw [lg_entry_eq]
  generalize (lg_sl ([.ref ho, .int a1x]) ++ List.replicate (9 - (lg_sl ([.ref ho, .int a1x])).length) Slot.unset).toArray = ls at hl ⊢
  have hl : lv_has ls 9 [(0, .ref ho), (1, .int a1x)] := hl
  generalize hQ : MQ _ _ _ _ _ _ _ = Q
  have S13 : ∀ (k13 : Nat) (x1 : Int32) (x2 : Int32) (x3 : Int32) (x4 : Int32) (q_o : Nat) (l_o : Nat) (o_reached : Int32) (g_o : Nat → Int32) (g_t : Nat → Int32) (H : Heap) (locs : List Loc) (ls : Array Slot), va_P (dC, dI) vwCl [(ho, .inr (1, [.ref q_o, .ref q_t, .int o_reached])), (q_o, .inl (c_i, l_o, .inl g_o)), (q_t, .inl (c_i, 182, .inl g_t))] H → va_D A [(ho, .inr (1, [.ref q_o, .ref q_t, .int o_reached])), (q_o, .inl (c_i, l_o, .inl g_o)), (q_t, .inl (c_i, 182, .inl g_t))] → va_S A s.heap H locs → lv_has ls 9 [(0, .ref ho), (1, .int x1), (2, .int x2), (3, .int x3), (4, .int x4)] → w184_L13 post k13 x1 x2 x3 x4 q_o l_o o_reached g_o g_t → W p l e (headSpec px_s184 ({ frames := 1, cells := 0, slots := 0, locals := 21 })).room s m ([.ref ho, .int a1x]).toArray below meth c H locs 0 0 Q (F0 m 13 ls []) := by
    intro k13
    induction k13 with
    | zero => intro x1 x2 x3 x4 q_o l_o o_reached g_o g_t H locs ls hP hD hS hl hw; exact False.elim hw
    | succ k13 ih13 =>
      have S39 : ∀ (k39 : Nat) (x1 : Int32) (x2 : Int32) (x3 : Int32) (x4 : Int32) (x5 : Int32) (q_o : Nat) (l_o : Nat) (o_reached : Int32) (g_o : Nat → Int32) (g_t : Nat → Int32) (H : Heap) (locs : List Loc) (ls : Array Slot), va_P (dC, dI) vwCl [(ho, .inr (1, [.ref q_o, .ref q_t, .int o_reached])), (q_o, .inl (c_i, l_o, .inl g_o)), (q_t, .inl (c_i, 182, .inl g_t))] H → va_D A [(ho, .inr (1, [.ref q_o, .ref q_t, .int o_reached])), (q_o, .inl (c_i, l_o, .inl g_o)), (q_t, .inl (c_i, 182, .inl g_t))] → va_S A s.heap H locs → lv_has ls 9 [(0, .ref ho), (1, .int x1), (2, .int x2), (3, .int x3), (4, .int x4), (5, .int x5)] → w184_L39 (w184_L13 post k13) post k39 x1 x2 x3 x4 x5 q_o l_o o_reached g_o g_t → W p l e (headSpec px_s184 ({ frames := 1, cells := 0, slots := 0, locals := 21 })).room s m ([.ref ho, .int a1x]).toArray below meth c H locs 0 0 Q (F0 m 39 ls []) := by
        intro k39
        induction k39 with
        | zero => intro x1 x2 x3 x4 x5 q_o l_o o_reached g_o g_t H locs ls hP hD hS hl hw; exact False.elim hw
        | succ k39 ih39 =>
          have S93 : ∀ (k93 : Nat) (x1 : Int32) (x2 : Int32) (x3 : Int32) (x4 : Int32) (x5 : Int32) (x6 : Int32) (x7 : Int32) (x8 : Int32) (q_o : Nat) (l_o : Nat) (o_reached : Int32) (g_o : Nat → Int32) (g_t : Nat → Int32) (H : Heap) (locs : List Loc) (ls : Array Slot), va_P (dC, dI) vwCl [(ho, .inr (1, [.ref q_o, .ref q_t, .int o_reached])), (q_o, .inl (c_i, l_o, .inl g_o)), (q_t, .inl (c_i, 182, .inl g_t))] H → va_D A [(ho, .inr (1, [.ref q_o, .ref q_t, .int o_reached])), (q_o, .inl (c_i, l_o, .inl g_o)), (q_t, .inl (c_i, 182, .inl g_t))] → va_S A s.heap H locs → lv_has ls 9 [(0, .ref ho), (1, .int x1), (2, .int x2), (3, .int x3), (4, .int x4), (5, .int x5), (6, .int x6), (7, .int x7), (8, .int x8)] → w184_L93 (w184_L13 post k13) (w184_L39 (w184_L13 post k13) post k39) post k93 x1 x2 x3 x4 x5 x6 x7 x8 q_o l_o o_reached g_o g_t → W p l e (headSpec px_s184 ({ frames := 1, cells := 0, slots := 0, locals := 21 })).room s m ([.ref ho, .int a1x]).toArray below meth c H locs 0 0 Q (F0 m 93 ls []) := by
            intro k93
            induction k93 with
            | zero => intro x1 x2 x3 x4 x5 x6 x7 x8 q_o l_o o_reached g_o g_t H locs ls hP hD hS hl hw; exact False.elim hw
            | succ k93 ih93 =>
              intro x1 x2 x3 x4 x5 x6 x7 x8 q_o l_o o_reached g_o g_t H locs ls hP hD hS hl hw
              unfold w184_L93 at hw
              refine lv_iload hx hb px_d184_93 (lv_at hl 8 rfl) ?_
              refine lv_iload hx hb px_d184_95 (lv_at hl 7 rfl) ?_
              refine lv_icmp_ge (tgt := 129) hx hb px_d184_97 (by decide) (fun c97 => ?_) (fun c97 => ?_)
              · have hw := hw.1 c97
                obtain ⟨z1, ez1⟩ : ∃ y : Int32, y = x5 + (-1) := ⟨_, rfl⟩
                have hw := hw z1 ez1
                refine lv_iinc (v := z1) (lv' := [(5, .int z1), (0, .ref ho), (1, .int x1), (2, .int x2), (3, .int x3), (4, .int x4), (6, .int x6), (7, .int x7), (8, .int x8)]) hx hb px_d184_129 hl (k := 5) rfl (by rw [ez1]; rfl) (by decide) rfl (fun ls hl => ?_)
                refine lv_goto (tgt := 39) hx hb px_d184_132 (by decide) ?_
                exact ih39 x1 x2 x3 x4 z1 q_o l_o o_reached g_o g_t H locs ls hP hD hS (lv_sub hl [1, 2, 3, 4, 5, 0] rfl) hw
              · have hw := hw.2 c97
                refine lv_aload_n hx hb px_d184_100 rfl (lv_at hl 0 rfl) ?_
                refine va_get (D := (dC, dI)) (ci := 1) (v := .ref q_o) (C := "MatroidDesk$Orders") (T := px_T1) (N := 3) hx hb htw px_in1 hown hK hP 0 rfl rfl 0 (by decide) (htw _ px_w190) (fun _ h9 => h9) rfl px_d184_101 ?_
                refine lv_iload_n hx hb px_d184_104 rfl (lv_at hl 3 rfl) ?_
                refine lv_aload_n hx hb px_d184_105 rfl (lv_at hl 0 rfl) ?_
                refine va_get (D := (dC, dI)) (ci := 1) (v := .ref q_o) (C := "MatroidDesk$Orders") (T := px_T1) (N := 3) hx hb htw px_in1 hown hK hP 0 rfl rfl 0 (by decide) (htw _ px_w190) (fun _ h9 => h9) rfl px_d184_106 ?_
                refine lv_iload_n hx hb px_d184_109 rfl (lv_at hl 2 rfl) ?_
                refine lv_iload hx hb px_d184_110 (lv_at hl 8 rfl) ?_
                refine lv_iadd hx hb px_d184_112 ?_
                obtain ⟨hi113, hw⟩ := hw
                refine va_iald hx hb hK hP 1 0 rfl rfl hi113 px_d184_113 ?_
                refine lv_iconst (v := 1) hx hb px_d184_114 (by decide) ?_
                refine lv_ishl hx hb px_d184_115 ?_
                refine lv_iload hx hb px_d184_116 (lv_at hl 5 rfl) ?_
                refine lv_ior hx hb px_d184_118 ?_
                refine lv_topi (fun z2 ez2 => ?_)
                have hw := hw z2 ez2
                obtain ⟨hi119, hw⟩ := hw
                refine va_iast hx hb hK hP hD hS 1 0 rfl rfl hi119 px_d184_119 (fun H locs hP hD hS => ?_)
                have hP : va_P (dC, dI) vwCl [(ho, .inr (1, [.ref q_o, .ref q_t, .int o_reached])), (q_o, .inl (c_i, l_o, .inl (upd g_o (Int32.toNatClampNeg x3) z2))), (q_t, .inl (c_i, 182, .inl g_t))] H := hP
                have hD : va_D A [(ho, .inr (1, [.ref q_o, .ref q_t, .int o_reached])), (q_o, .inl (c_i, l_o, .inl (upd g_o (Int32.toNatClampNeg x3) z2))), (q_t, .inl (c_i, 182, .inl g_t))] := hD
                obtain ⟨z3, ez3⟩ : ∃ y : Int32, y = x3 + 1 := ⟨_, rfl⟩
                have hw := hw z3 ez3
                refine lv_iinc (v := z3) (lv' := [(3, .int z3), (0, .ref ho), (1, .int x1), (2, .int x2), (4, .int x4), (5, .int x5), (6, .int x6), (7, .int x7), (8, .int x8)]) hx hb px_d184_120 hl (k := 3) rfl (by rw [ez3]; rfl) (by decide) rfl (fun ls hl => ?_)
                obtain ⟨z4, ez4⟩ : ∃ y : Int32, y = x8 + 1 := ⟨_, rfl⟩
                have hw := hw z4 ez4
                refine lv_iinc (v := z4) (lv' := [(8, .int z4), (3, .int z3), (0, .ref ho), (1, .int x1), (2, .int x2), (4, .int x4), (5, .int x5), (6, .int x6), (7, .int x7)]) hx hb px_d184_123 hl (k := 8) rfl (by rw [ez4]; rfl) (by decide) rfl (fun ls hl => ?_)
                refine lv_goto (tgt := 93) hx hb px_d184_126 (by decide) ?_
                exact ih93 x1 x2 z3 x4 x5 x6 x7 z4 q_o l_o o_reached (upd g_o (Int32.toNatClampNeg x3) z2) g_t H locs ls hP hD hS (lv_sub hl [2, 3, 4, 1, 5, 6, 7, 8, 0] rfl) hw
          have S82 : ∀ (x1 : Int32) (x2 : Int32) (x3 : Int32) (x4 : Int32) (x5 : Int32) (x6 : Int32) (y0 : Int32) (q_o : Nat) (l_o : Nat) (o_reached : Int32) (g_o : Nat → Int32) (g_t : Nat → Int32) (H : Heap) (locs : List Loc) (ls : Array Slot), va_P (dC, dI) vwCl [(ho, .inr (1, [.ref q_o, .ref q_t, .int o_reached])), (q_o, .inl (c_i, l_o, .inl g_o)), (q_t, .inl (c_i, 182, .inl g_t))] H → va_D A [(ho, .inr (1, [.ref q_o, .ref q_t, .int o_reached])), (q_o, .inl (c_i, l_o, .inl g_o)), (q_t, .inl (c_i, 182, .inl g_t))] → va_S A s.heap H locs → lv_has ls 9 [(0, .ref ho), (1, .int x1), (2, .int x2), (3, .int x3), (4, .int x4), (5, .int x5), (6, .int x6)] → w184_L82 (w184_L13 post k13) (w184_L39 (w184_L13 post k13) post k39) post x1 x2 x3 x4 x5 x6 y0 q_o l_o o_reached g_o g_t → W p l e (headSpec px_s184 ({ frames := 1, cells := 0, slots := 0, locals := 21 })).room s m ([.ref ho, .int a1x]).toArray below meth c H locs 0 0 Q (F0 m 82 ls [.int y0]) := by
            intro x1 x2 x3 x4 x5 x6 y0 q_o l_o o_reached g_o g_t H locs ls hP hD hS hl hw
            unfold w184_L82 at hw
            refine lv_istore (lv' := [(7, .int y0), (0, .ref ho), (1, .int x1), (2, .int x2), (3, .int x3), (4, .int x4), (5, .int x5), (6, .int x6)]) hx hb px_d184_82 hl (by decide) rfl (fun ls hl => ?_)
            refine lv_aload_n hx hb px_d184_84 rfl (lv_at hl 1 rfl) ?_
            refine va_get (D := (dC, dI)) (ci := 1) (v := .ref q_t) (C := "MatroidDesk$Orders") (T := px_T1) (N := 3) hx hb htw px_in1 hown hK hP 0 rfl rfl 1 (by decide) (htw _ px_w191) (fun _ h9 => h9) rfl px_d184_85 ?_
            refine lv_iload hx hb px_d184_88 (lv_at hl 7 rfl) ?_
            obtain ⟨hi90, hw⟩ := hw
            refine va_iald hx hb hK hP 2 0 rfl rfl hi90 px_d184_90 ?_
            refine lv_topi (fun z5 ez5 => ?_)
            have hw := hw z5 ez5
            refine lv_istore (lv' := [(8, .int z5), (7, .int y0), (0, .ref ho), (1, .int x1), (2, .int x2), (3, .int x3), (4, .int x4), (5, .int x5), (6, .int x6)]) hx hb px_d184_91 hl (by decide) rfl (fun ls hl => ?_)
            obtain ⟨k9, hw⟩ := hw
            exact S93 k9 x1 x2 x3 x4 x5 x6 y0 z5 q_o l_o o_reached g_o g_t H locs ls hP hD hS (lv_sub hl [2, 3, 4, 5, 6, 7, 8, 1, 0] rfl) hw
          intro x1 x2 x3 x4 x5 q_o l_o o_reached g_o g_t H locs ls hP hD hS hl hw
          unfold w184_L39 at hw
          refine lv_iload hx hb px_d184_39 (lv_at hl 5 rfl) ?_
          refine lv_if_lt (tgt := 135) hx hb px_d184_41 (by decide) (fun c41 => ?_) (fun c41 => ?_)
          · have hw := hw.1 c41
            obtain ⟨z6, ez6⟩ : ∃ y : Int32, y = x4 + 1 := ⟨_, rfl⟩
            have hw := hw z6 ez6
            refine lv_iinc (v := z6) (lv' := [(4, .int z6), (0, .ref ho), (1, .int x1), (2, .int x2), (3, .int x3), (5, .int x5)]) hx hb px_d184_135 hl (k := 4) rfl (by rw [ez6]; rfl) (by decide) rfl (fun ls hl => ?_)
            refine lv_goto (tgt := 13) hx hb px_d184_138 (by decide) ?_
            exact ih13 x1 x2 x3 z6 q_o l_o o_reached g_o g_t H locs ls hP hD hS (lv_sub hl [1, 2, 3, 4, 0] rfl) hw
          · have hw := hw.2 c41
            refine lv_iload_n hx hb px_d184_44 rfl (lv_at hl 1 rfl) ?_
            refine lv_iconst (v := 1) hx hb px_d184_45 (by decide) ?_
            refine lv_isub hx hb px_d184_46 ?_
            refine lv_bipush (v := 14) hx hb px_d184_47 (by decide) ?_
            refine lv_imul hx hb px_d184_49 ?_
            refine lv_iconst (v := 0) hx hb px_d184_50 (by decide) ?_
            refine lv_iload hx hb px_d184_51 (lv_at hl 4 rfl) ?_
            refine lv_iload hx hb px_d184_53 (lv_at hl 5 rfl) ?_
            refine lv_isub hx hb px_d184_55 ?_
            have hPc := hP.sub (ws' := []) [] rfl
            have hDc := hD.sub (ws' := []) [] (by decide) rfl
            have hKc := hK.sub (tys' := []) [] rfl
            have hFc := va_free (wc := []) hD hS hA [] rfl
            refine va_calli (va_runS (As := [.int 0, .int (x4 - x5)]) (rest := [.int ((x1 - 1) * 14)]) ⟨hx, hb, hml, hown, htw⟩ (w185_met l dC dI H.size 0 (x4 - x5) _ hw) (va_cwS 2 htw (px_gs2 px_w1046 px_w1048 px_w1753 px_g185) rfl rfl rfl (by decide +kernel) ⟨Nat.le_of_ble_eq_true rfl, Nat.le_of_ble_eq_true rfl⟩) ⟨fun a U g mk q => by obtain ⟨q0, q1, qP, qK, qD, qN⟩ := q; exact ⟨q0, q1, qP, va_K.moved (u := U) (U := U.calling g mk a) (Vm.Alike.refl U.vm) qK, qD, qN.same rfl⟩, fun U hU hW => ⟨rfl, by rw [hU], by rw [hU]; exact hPc, va_K.moved hW.alike hKc, hDc.weaken (fun _ _ _ _ => trivial), hN.warm hW⟩⟩ rfl rfl hl.1 rfl (lv_room (Nat.le_of_ble_eq_true rfl)) px_d184_56 ⟨(Nat.le_of_ble_eq_true rfl), (Nat.le_of_ble_eq_true rfl)⟩) hS (fun q _ h => hFc q h) hFc (fun r56 u t H1 locs ht hvm hw hB hz1 hk1 hS => ?_)
            obtain ⟨hP1, hK1, hD1⟩ := hB
            rw [ht] at hP1
            have hK1 := va_K.moved hvm.symm hK1
            obtain ⟨hP, hD⟩ := va_join (wr := [(ho, .inr (1, [.ref q_o, .ref q_t, .int o_reached])), (q_o, .inl (c_i, l_o, .inl g_o)), (q_t, .inl (c_i, 182, .inl g_t))]) (w1 := []) hP hD [] [0, 1, 2] rfl rfl (by decide) (by decide) hk1 hFc hP1 hD1
            generalize H1 = H at hP hS ⊢
            have hP : va_P (dC, dI) vwCl [(ho, .inr (1, [.ref q_o, .ref q_t, .int o_reached])), (q_o, .inl (c_i, l_o, .inl g_o)), (q_t, .inl (c_i, 182, .inl g_t))] H := hP
            have hD : va_D A [(ho, .inr (1, [.ref q_o, .ref q_t, .int o_reached])), (q_o, .inl (c_i, l_o, .inl g_o)), (q_t, .inl (c_i, 182, .inl g_t))] := hD
            refine lv_iadd hx hb px_d184_59 ?_
            refine lv_topi (fun z7 ez7 => ?_)
            have hw := hw z7 ez7
            refine lv_istore (lv' := [(6, .int z7), (0, .ref ho), (1, .int x1), (2, .int x2), (3, .int x3), (4, .int x4), (5, .int x5)]) hx hb px_d184_60 hl (by decide) rfl (fun ls hl => ?_)
            refine lv_iload hx hb px_d184_62 (lv_at hl 5 rfl) ?_
            refine lv_iload hx hb px_d184_64 (lv_at hl 6 rfl) ?_
            refine lv_icmp_ge (tgt := 73) hx hb px_d184_66 (by decide) (fun c66 => ?_) (fun c66 => ?_)
            · have hw := hw.1 c66
              refine lv_aload_n hx hb px_d184_73 rfl (lv_at hl 1 rfl) ?_
              refine va_get (D := (dC, dI)) (ci := 1) (v := .ref q_t) (C := "MatroidDesk$Orders") (T := px_T1) (N := 3) hx hb htw px_in1 hown hK hP 0 rfl rfl 1 (by decide) (htw _ px_w191) (fun _ h9 => h9) rfl px_d184_74 ?_
              refine lv_iload hx hb px_d184_77 (lv_at hl 0 rfl) ?_
              refine lv_iconst (v := 1) hx hb px_d184_79 (by decide) ?_
              refine lv_iadd hx hb px_d184_80 ?_
              obtain ⟨hi81, hw⟩ := hw
              refine va_iald hx hb hK hP 2 0 rfl rfl hi81 px_d184_81 ?_
              exact S82 x1 x2 x3 x4 x5 z7 (g_t (Int32.toNatClampNeg (z7 + 1))) q_o l_o o_reached g_o g_t H locs ls hP hD hS (lv_sub hl [1, 2, 3, 4, 5, 6, 0] rfl) hw
            · have hw := hw.2 c66
              refine lv_iconst (v := 0) hx hb px_d184_69 (by decide) ?_
              refine lv_goto (tgt := 82) hx hb px_d184_70 (by decide) ?_
              exact S82 x1 x2 x3 x4 x5 z7 0 q_o l_o o_reached g_o g_t H locs ls hP hD hS (lv_sub hl [1, 2, 3, 4, 5, 6, 0] rfl) hw
      intro x1 x2 x3 x4 q_o l_o o_reached g_o g_t H locs ls hP hD hS hl hw
      unfold w184_L13 at hw
      refine lv_iload hx hb px_d184_13 (lv_at hl 4 rfl) ?_
      refine lv_iload_n hx hb px_d184_15 rfl (lv_at hl 1 rfl) ?_
      refine lv_icmp_gt (tgt := 141) hx hb px_d184_16 (by decide) (fun c16 => ?_) (fun c16 => ?_)
      · have hw := hw.1 c16
        refine lv_aload_n hx hb px_d184_141 rfl (lv_at hl 0 rfl) ?_
        refine va_get (D := (dC, dI)) (ci := 1) (v := .ref q_t) (C := "MatroidDesk$Orders") (T := px_T1) (N := 3) hx hb htw px_in1 hown hK hP 0 rfl rfl 1 (by decide) (htw _ px_w191) (fun _ h9 => h9) rfl px_d184_142 ?_
        refine lv_iload_n hx hb px_d184_145 rfl (lv_at hl 1 rfl) ?_
        refine lv_bipush (v := 14) hx hb px_d184_146 (by decide) ?_
        refine lv_imul hx hb px_d184_148 ?_
        refine lv_iload_n hx hb px_d184_149 rfl (lv_at hl 1 rfl) ?_
        refine lv_iadd hx hb px_d184_150 ?_
        refine lv_iconst (v := 1) hx hb px_d184_151 (by decide) ?_
        refine lv_iadd hx hb px_d184_152 ?_
        refine lv_iconst (v := 1) hx hb px_d184_153 (by decide) ?_
        refine lv_iload_n hx hb px_d184_154 rfl (lv_at hl 1 rfl) ?_
        refine lv_ishl hx hb px_d184_155 ?_
        refine lv_topi (fun z8 ez8 => ?_)
        have hw := hw z8 ez8
        obtain ⟨hi156, hw⟩ := hw
        refine va_iast hx hb hK hP hD hS 2 0 rfl rfl hi156 px_d184_156 (fun H locs hP hD hS => ?_)
        have hP : va_P (dC, dI) vwCl [(ho, .inr (1, [.ref q_o, .ref q_t, .int o_reached])), (q_o, .inl (c_i, l_o, .inl g_o)), (q_t, .inl (c_i, 182, .inl (upd g_t (Int32.toNatClampNeg (((x1 * 14) + x1) + 1)) z8)))] H := hP
        have hD : va_D A [(ho, .inr (1, [.ref q_o, .ref q_t, .int o_reached])), (q_o, .inl (c_i, l_o, .inl g_o)), (q_t, .inl (c_i, 182, .inl (upd g_t (Int32.toNatClampNeg (((x1 * 14) + x1) + 1)) z8)))] := hD
        rw [← hQ]
        exact W.vret hx hb hr (fun t ht hW => ⟨⟨(q_o, l_o, o_reached, g_o, upd g_t (Int32.toNatClampNeg (((x1 * 14) + x1) + 1)) z8), rfl, hw, by rw [ht]; exact hP, va_K.moved hW.alike hK, hD⟩, hS.F ht⟩) hS.2.2 px_d184_157
      · have hw := hw.2 c16
        refine lv_aload_n hx hb px_d184_19 rfl (lv_at hl 0 rfl) ?_
        refine va_get (D := (dC, dI)) (ci := 1) (v := .ref q_t) (C := "MatroidDesk$Orders") (T := px_T1) (N := 3) hx hb htw px_in1 hown hK hP 0 rfl rfl 1 (by decide) (htw _ px_w191) (fun _ h9 => h9) rfl px_d184_20 ?_
        refine lv_iload_n hx hb px_d184_23 rfl (lv_at hl 1 rfl) ?_
        refine lv_bipush (v := 14) hx hb px_d184_24 (by decide) ?_
        refine lv_imul hx hb px_d184_26 ?_
        refine lv_iload hx hb px_d184_27 (lv_at hl 4 rfl) ?_
        refine lv_iadd hx hb px_d184_29 ?_
        refine lv_iload_n hx hb px_d184_30 rfl (lv_at hl 3 rfl) ?_
        refine lv_iconst (v := 1) hx hb px_d184_31 (by decide) ?_
        refine lv_iload_n hx hb px_d184_32 rfl (lv_at hl 1 rfl) ?_
        refine lv_ishl hx hb px_d184_33 ?_
        refine lv_isub hx hb px_d184_34 ?_
        refine lv_topi (fun z9 ez9 => ?_)
        have hw := hw z9 ez9
        obtain ⟨hi35, hw⟩ := hw
        refine va_iast hx hb hK hP hD hS 2 0 rfl rfl hi35 px_d184_35 (fun H locs hP hD hS => ?_)
        have hP : va_P (dC, dI) vwCl [(ho, .inr (1, [.ref q_o, .ref q_t, .int o_reached])), (q_o, .inl (c_i, l_o, .inl g_o)), (q_t, .inl (c_i, 182, .inl (upd g_t (Int32.toNatClampNeg ((x1 * 14) + x4)) z9)))] H := hP
        have hD : va_D A [(ho, .inr (1, [.ref q_o, .ref q_t, .int o_reached])), (q_o, .inl (c_i, l_o, .inl g_o)), (q_t, .inl (c_i, 182, .inl (upd g_t (Int32.toNatClampNeg ((x1 * 14) + x4)) z9)))] := hD
        refine lv_iconst (v := 1) hx hb px_d184_36 (by decide) ?_
        refine lv_istore (lv' := [(5, .int 1), (0, .ref ho), (1, .int x1), (2, .int x2), (3, .int x3), (4, .int x4)]) hx hb px_d184_37 hl (by decide) rfl (fun ls hl => ?_)
        obtain ⟨k9, hw⟩ := hw
        exact S39 k9 x1 x2 x3 x4 1 q_o l_o o_reached g_o (upd g_t (Int32.toNatClampNeg ((x1 * 14) + x4)) z9) H locs ls hP hD hS (lv_sub hl [1, 2, 3, 4, 5, 0] rfl) hw
  unfold w184_wp at hw
  have hS0 := hS
  obtain ⟨H, hH9⟩ : ∃ z, z = s.heap := ⟨_, rfl⟩
  have hP : va_P (dC, dI) vwCl [(ho, .inr (1, [.ref q_o, .ref q_t, .int o_reached])), (q_o, .inl (c_i, l_o, .inl g_o)), (q_t, .inl (c_i, 182, .inl g_t))] H := by rw [hH9]; exact hP
  obtain ⟨locs, hlo9⟩ : ∃ z : List Loc, z = [] := ⟨_, rfl⟩
  have hS : va_S A s.heap H locs := by rw [hH9, hlo9]; exact hS
  suffices hG : W p l e (headSpec px_s184 ({ frames := 1, cells := 0, slots := 0, locals := 21 })).room s m ([.ref ho, .int a1x]).toArray below meth c H locs 0 0 Q (F0 m 0 ls []) by rw [hH9, hlo9] at hG; exact hG
  refine lv_iconst (v := 1) hx hb px_d184_0 (by decide) ?_
  refine lv_iload_n hx hb px_d184_1 rfl (lv_at hl 1 rfl) ?_
  refine lv_iconst (v := 1) hx hb px_d184_2 (by decide) ?_
  refine lv_isub hx hb px_d184_3 ?_
  refine lv_ishl hx hb px_d184_4 ?_
  refine lv_topi (fun z10 ez10 => ?_)
  have hw := hw z10 ez10
  refine lv_istore_n (lv' := [(2, .int z10), (0, .ref ho), (1, .int a1x)]) hx hb px_d184_5 rfl hl (by decide) rfl (fun ls hl => ?_)
  refine lv_iconst (v := 1) hx hb px_d184_6 (by decide) ?_
  refine lv_iload_n hx hb px_d184_7 rfl (lv_at hl 2 rfl) ?_
  refine lv_ishl hx hb px_d184_8 ?_
  refine lv_topi (fun z11 ez11 => ?_)
  have hw := hw z11 ez11
  refine lv_istore_n (lv' := [(3, .int z11), (2, .int z10), (0, .ref ho), (1, .int a1x)]) hx hb px_d184_9 rfl hl (by decide) rfl (fun ls hl => ?_)
  refine lv_iconst (v := 0) hx hb px_d184_10 (by decide) ?_
  refine lv_istore (lv' := [(4, .int 0), (3, .int z11), (2, .int z10), (0, .ref ho), (1, .int a1x)]) hx hb px_d184_11 hl (by decide) rfl (fun ls hl => ?_)
  obtain ⟨k9, hw⟩ := hw
  exact S13 k9 a1x z10 z11 0 q_o l_o o_reached g_o g_t H locs ls hP hD hS (lv_sub hl [3, 4, 2, 1, 0] rfl) hw

/-! MatroidDesk$Orders.reach(I)V -/
def w181_L25 (mc : Nat) (ms : Nat) (post : Nat → Nat → Int32 → (Nat → Int32) → (Nat → Int32) → Prop) : Nat → Int32 → Nat → Nat → Int32 → (Nat → Int32) → (Nat → Int32) → Nat → Nat → Prop
  | 0 => fun _ _ _ _ _ _ _ _ => False
  | k + 1 => fun x1 q_o l_o o_reached g_o g_t kc ks => (x1 ≤ o_reached → post q_o l_o o_reached g_o g_t) ∧ (¬ x1 ≤ o_reached → (w184_wp (fun v1 v2 v3 v4 v5 => ∀ z7 : Int32, z7 = v3 + 1 → (w181_L25 mc ms post k) x1 v1 v2 z7 v4 v5 kc ks) (o_reached + 1) q_o l_o o_reached g_o g_t))
def w181_wp (mc : Nat) (ms : Nat) (post : Nat → Nat → Int32 → (Nat → Int32) → (Nat → Int32) → Prop) (a1x : Int32) (q_o : Nat) (l_o : Nat) (o_reached : Int32) (g_o : Nat → Int32) (g_t : Nat → Int32) : Prop := (((2 : Int32) <<< (a1x &&& 31)) ≤ (nI l_o) → ∃ j25, w181_L25 mc ms post j25 a1x q_o l_o o_reached g_o g_t 0 0) ∧ (¬ ((2 : Int32) <<< (a1x &&& 31)) ≤ (nI l_o) → ∃ m19_10 s19_10 : Nat, 0 + m19_10 ≤ mc ∧ 0 + s19_10 ≤ ms ∧ (w182_wp l_o m19_10 s19_10 (fun nq19_9 nn19_9 nf19_9 v8 => ∃ j25, w181_L25 mc ms post j25 a1x nq19_9 nn19_9 o_reached nf19_9 g_t (0 + m19_10) (0 + s19_10)) ((2 : Int32) <<< (a1x &&& 31)) g_o))
set_option maxHeartbeats 8000000 in
set_option maxRecDepth 100000 in
theorem w181_met (l : Launch) (dC : Nat → ClassId) (dI : Nat → Nat → Nat) (sz : Nat) (ho : Nat) (q_t : Nat) (c_i : ClassId) (mc : Nat) (ms : Nat) (a1x : Int32) (q_o : Nat) (l_o : Nat) (o_reached : Int32) (g_o : Nat → Int32) (g_t : Nat → Int32) (post : Nat → Nat → Int32 → (Nat → Int32) → (Nat → Int32) → Prop) (hw : w181_wp mc ms post a1x q_o l_o o_reached g_o g_t) : Met l px_y181 px_s181 ({ frames := 2, cells := mc, slots := ms, locals := 49 }) (va_Pc [.ref ho, .int a1x] (fun U => U.heap.size = sz ∧ va_P (dC, dI) vwCl [(ho, .inr (1, [.ref q_o, .ref q_t, .int o_reached])), (q_o, .inl (c_i, l_o, .inl g_o)), (q_t, .inl (c_i, 182, .inl g_t))] U.heap ∧ va_K (dC, dI) vwCl [(c_i, .int)] U ∧ va_D (fun _ => True) [(ho, .inr (1, [.ref q_o, .ref q_t, .int o_reached])), (q_o, .inl (c_i, l_o, .inl g_o)), (q_t, .inl (c_i, 182, .inl g_t))] ∧ px_N U)) (va_Qv (fun (u : Nat × Nat × Int32 × (Nat → Int32) × (Nat → Int32)) => post u.1 u.2.1 u.2.2.1 u.2.2.2.1 u.2.2.2.2) (fun (u : Nat × Nat × Int32 × (Nat → Int32) × (Nat → Int32)) (t : State) => va_P (dC, dI) vwCl [(ho, .inr (1, [.ref u.1, .ref q_t, .int u.2.2.1])), (u.1, .inl (c_i, u.2.1, .inl u.2.2.2.1)), (q_t, .inl (c_i, 182, .inl u.2.2.2.2))] t.heap ∧ va_K (dC, dI) vwCl [(c_i, .int)] t ∧ va_D (va_A [(ho, .inr (1, [.ref q_o, .ref q_t, .int o_reached])), (q_o, .inl (c_i, l_o, .inl g_o)), (q_t, .inl (c_i, 182, .inl g_t))] sz) [(ho, .inr (1, [.ref u.1, .ref q_t, .int u.2.2.1])), (u.1, .inl (c_i, u.2.1, .inl u.2.2.2.1)), (q_t, .inl (c_i, 182, .inl u.2.2.2.2))]) (va_A [(ho, .inr (1, [.ref q_o, .ref q_t, .int o_reached])), (q_o, .inl (c_i, l_o, .inl g_o)), (q_t, .inl (c_i, 182, .inl g_t))] sz)) mc ms (va_A [(ho, .inr (1, [.ref q_o, .ref q_t, .int o_reached])), (q_o, .inl (c_i, l_o, .inl g_o)), (q_t, .inl (c_i, 182, .inl g_t))] sz) := by
  refine Met.ofW (cc := prog_5_method_2_code) (maxL := 2) (ret := none) (by decide) rfl ?_
  intro p e s m args below meth c s₁ B hml hv
  obtain ⟨rfl, hsz, hP, hK, hD0, hN⟩ := hv
  have hx := B.exec
  have hb := B.bytes
  have hr := B.returns
  have htw : ∀ w ∈ px_all, w.before _ s = true := fun w h => atoms_spec (ws := px_s181) B.pre w (List.mem_cons_of_mem _ h)
  have hown : s.vm.findClass "MatroidDesk$Orders" = some m.cls := findClass_of_methodNamed B.named
  have hlocks := B.notSynchronized
  subst hsz
  have hD := hD0.self (sz := s.heap.size)
  generalize hAe : va_A [(ho, .inr (1, [.ref q_o, .ref q_t, .int o_reached])), (q_o, .inl (c_i, l_o, .inl g_o)), (q_t, .inl (c_i, 182, .inl g_t))] s.heap.size = A at hD ⊢
  have hA : ∀ q : Nat, s.heap.size ≤ q → A q := fun q h => by rw [← hAe]; exact Or.inr h
  have hS : va_S A s.heap s.heap [] := va_S.rf
  have hP : va_P (dC, dI) vwCl [(ho, .inr (1, [.ref q_o, .ref q_t, .int o_reached])), (q_o, .inl (c_i, l_o, .inl g_o)), (q_t, .inl (c_i, 182, .inl g_t))] s.heap := hP
  have hl := lv_entry ([.ref ho, .int a1x]) (n := 2) (Nat.le_of_ble_eq_true rfl)
  rw [lg_entry_eq]
  generalize (lg_sl ([.ref ho, .int a1x]) ++ List.replicate (2 - (lg_sl ([.ref ho, .int a1x])).length) Slot.unset).toArray = ls at hl ⊢
  have hl : lv_has ls 2 [(0, .ref ho), (1, .int a1x)] := hl
  generalize hQ : MQ _ _ _ _ _ _ _ = Q
  have S25 : ∀ (k25 : Nat) (x1 : Int32) (q_o : Nat) (l_o : Nat) (o_reached : Int32) (g_o : Nat → Int32) (g_t : Nat → Int32) (kc : Nat) (ks : Nat) (H : Heap) (locs : List Loc) (ls : Array Slot), kc ≤ mc → ks ≤ ms → va_P (dC, dI) vwCl [(ho, .inr (1, [.ref q_o, .ref q_t, .int o_reached])), (q_o, .inl (c_i, l_o, .inl g_o)), (q_t, .inl (c_i, 182, .inl g_t))] H → va_D A [(ho, .inr (1, [.ref q_o, .ref q_t, .int o_reached])), (q_o, .inl (c_i, l_o, .inl g_o)), (q_t, .inl (c_i, 182, .inl g_t))] → va_S A s.heap H locs → lv_has ls 2 [(0, .ref ho), (1, .int x1)] → w181_L25 mc ms post k25 x1 q_o l_o o_reached g_o g_t kc ks → W p l e (headSpec px_s181 ({ frames := 2, cells := mc, slots := ms, locals := 49 })).room s m ([.ref ho, .int a1x]).toArray below meth c H locs kc ks Q (F0 m 25 ls []) := by
    intro k25
    induction k25 with
    | zero => intro x1 q_o l_o o_reached g_o g_t kc ks H locs ls hkc hks hP hD hS hl hw; exact False.elim hw
    | succ k25 ih25 =>
      intro x1 q_o l_o o_reached g_o g_t kc ks H locs ls hkc hks hP hD hS hl hw
      unfold w181_L25 at hw
      refine lv_aload_n hx hb px_d181_25 rfl (lv_at hl 0 rfl) ?_
      refine va_get (D := (dC, dI)) (ci := 1) (v := .int o_reached) (C := "MatroidDesk$Orders") (T := px_T1) (N := 3) hx hb htw px_in1 hown hK hP 0 rfl rfl 2 (by decide) (htw _ px_w192) (fun _ h9 => h9) rfl px_d181_26 ?_
      refine lv_iload_n hx hb px_d181_29 rfl (lv_at hl 1 rfl) ?_
      refine lv_icmp_ge (tgt := 56) hx hb px_d181_30 (by decide) (fun c30 => ?_) (fun c30 => ?_)
      · have hw := hw.1 c30
        refine W.widen (k := mc) (n := ms) hkc hks ?_
        rw [← hQ]
        exact W.vret hx hb hr (fun t ht hW => ⟨⟨(q_o, l_o, o_reached, g_o, g_t), rfl, hw, by rw [ht]; exact hP, va_K.moved hW.alike hK, hD⟩, hS.F ht⟩) hS.2.2 px_d181_56
      · have hw := hw.2 c30
        refine lv_aload_n hx hb px_d181_33 rfl (lv_at hl 0 rfl) ?_
        refine lv_aload_n hx hb px_d181_34 rfl (lv_at hl 0 rfl) ?_
        refine va_get (D := (dC, dI)) (ci := 1) (v := .int o_reached) (C := "MatroidDesk$Orders") (T := px_T1) (N := 3) hx hb htw px_in1 hown hK hP 0 rfl rfl 2 (by decide) (htw _ px_w192) (fun _ h9 => h9) rfl px_d181_35 ?_
        refine lv_iconst (v := 1) hx hb px_d181_38 (by decide) ?_
        refine lv_iadd hx hb px_d181_39 ?_
        have hPc := hP.sub (ws' := [(ho, .inr (1, [.ref q_o, .ref q_t, .int o_reached])), (q_o, .inl (c_i, l_o, .inl g_o)), (q_t, .inl (c_i, 182, .inl g_t))]) [0, 1, 2] rfl
        have hDc := hD.sub (ws' := [(ho, .inr (1, [.ref q_o, .ref q_t, .int o_reached])), (q_o, .inl (c_i, l_o, .inl g_o)), (q_t, .inl (c_i, 182, .inl g_t))]) [0, 1, 2] (by decide) rfl
        have hFc := va_free (wc := [(ho, .inr (1, [.ref q_o, .ref q_t, .int o_reached])), (q_o, .inl (c_i, l_o, .inl g_o)), (q_t, .inl (c_i, 182, .inl g_t))]) hD hS hA [0, 1, 2] rfl
        have hKc := hK.sub (tys' := [(c_i, .int)]) [0] rfl
        refine va_callv (va_runV (As := [.int (o_reached + 1)]) (rest := []) ⟨hx, hb, hml, hown, htw⟩ (w184_met l dC dI H.size ho q_t c_i (o_reached + 1) q_o l_o o_reached g_o g_t _ hw) (cwV 1 htw (px_gv px_w1037 px_w1044 px_w1045 px_w22 px_g184) rfl rfl rfl (by decide +kernel) ⟨Nat.le_of_ble_eq_true rfl, Nat.le_of_ble_eq_true rfl⟩) ⟨fun a U g mk q => by obtain ⟨q0, q1, qP, qK, qD, qN⟩ := q; exact ⟨q0, q1, qP, va_K.moved (u := U) (U := U.calling g mk a) (Vm.Alike.refl U.vm) qK, qD, qN.same rfl⟩, va_recv hK hP (ci := 1) (q0 := 0) rfl rfl, fun U hU hW => ⟨rfl, by rw [hU], by rw [hU]; exact hPc, va_K.moved hW.alike hKc, hDc.weaken (fun _ _ _ _ => trivial), hN.warm hW⟩⟩ rfl rfl hl.1 rfl (lv_room (Nat.le_of_ble_eq_true rfl)) px_d181_40 ⟨hkc, hks⟩) hS (fun q _ h => hFc q h) hFc (fun u t H1 locs ht hvm hw hB hz1 hk1 hS => ?_)
        obtain ⟨v1, v2, v3, v4, v5⟩ := u
        obtain ⟨hP1, hK1, hD1⟩ := hB
        rw [ht] at hP1
        obtain ⟨hP, hD⟩ := va_join (wr := []) (w1 := [(ho, .inr (1, [.ref v1, .ref q_t, .int v3])), (v1, .inl (c_i, v2, .inl v4)), (q_t, .inl (c_i, 182, .inl v5))]) hP hD [0, 1, 2] [] rfl rfl (by decide) (by decide) hk1 hFc hP1 hD1
        generalize H1 = H at hP hS ⊢
        have hP : va_P (dC, dI) vwCl [(ho, .inr (1, [.ref v1, .ref q_t, .int v3])), (v1, .inl (c_i, v2, .inl v4)), (q_t, .inl (c_i, 182, .inl v5))] H := hP
        have hD : va_D A [(ho, .inr (1, [.ref v1, .ref q_t, .int v3])), (v1, .inl (c_i, v2, .inl v4)), (q_t, .inl (c_i, 182, .inl v5))] := hD
        refine lv_aload_n hx hb px_d181_43 rfl (lv_at hl 0 rfl) ?_
        refine lv_dup hx hb px_d181_44 rfl ?_
        refine va_get (D := (dC, dI)) (ci := 1) (v := .int v3) (C := "MatroidDesk$Orders") (T := px_T1) (N := 3) hx hb htw px_in1 hown hK hP 0 rfl rfl 2 (by decide) (htw _ px_w192) (fun _ h9 => h9) rfl px_d181_45 ?_
        refine lv_iconst (v := 1) hx hb px_d181_48 (by decide) ?_
        refine lv_iadd hx hb px_d181_49 ?_
        refine lv_topi (fun z7 ez7 => ?_)
        have hw := hw z7 ez7
        refine va_put (D := (dC, dI)) (ci := 1) (v := .int z7) (ty := .int) (C := "MatroidDesk$Orders") (T := px_T1) (N := 3) hx hb htw px_in1 px_ty1 px_tyok1 px_nm1 hown hK hP hD hS 0 rfl rfl 2 (by decide) (htw _ px_w192) (fun _ h9 => h9) rfl (by decide +kernel) rfl rfl (Nat.le_of_ble_eq_true rfl) px_d181_50 (fun H locs hP hD hS => ?_)
        have hP : va_P (dC, dI) vwCl [(ho, .inr (1, [.ref v1, .ref q_t, .int z7])), (v1, .inl (c_i, v2, .inl v4)), (q_t, .inl (c_i, 182, .inl v5))] H := hP
        have hD : va_D A [(ho, .inr (1, [.ref v1, .ref q_t, .int z7])), (v1, .inl (c_i, v2, .inl v4)), (q_t, .inl (c_i, 182, .inl v5))] := hD
        refine lv_goto (tgt := 25) hx hb px_d181_53 (by decide) ?_
        exact ih25 x1 v1 v2 z7 v4 v5 kc ks H locs ls hkc hks hP hD hS (lv_sub hl [0, 1] rfl) hw
  unfold w181_wp at hw
  have hS0 := hS
  obtain ⟨H, hH9⟩ : ∃ z, z = s.heap := ⟨_, rfl⟩
  have hP : va_P (dC, dI) vwCl [(ho, .inr (1, [.ref q_o, .ref q_t, .int o_reached])), (q_o, .inl (c_i, l_o, .inl g_o)), (q_t, .inl (c_i, 182, .inl g_t))] H := by rw [hH9]; exact hP
  obtain ⟨locs, hlo9⟩ : ∃ z : List Loc, z = [] := ⟨_, rfl⟩
  have hS : va_S A s.heap H locs := by rw [hH9, hlo9]; exact hS
  suffices hG : W p l e (headSpec px_s181 ({ frames := 2, cells := mc, slots := ms, locals := 49 })).room s m ([.ref ho, .int a1x]).toArray below meth c H locs 0 0 Q (F0 m 0 ls []) by rw [hH9, hlo9] at hG; exact hG
  refine lv_iconst (v := 2) hx hb px_d181_0 (by decide) ?_
  refine lv_iload_n hx hb px_d181_1 rfl (lv_at hl 1 rfl) ?_
  refine lv_ishl hx hb px_d181_2 ?_
  refine lv_aload_n hx hb px_d181_3 rfl (lv_at hl 0 rfl) ?_
  refine va_get (D := (dC, dI)) (ci := 1) (v := .ref q_o) (C := "MatroidDesk$Orders") (T := px_T1) (N := 3) hx hb htw px_in1 hown hK hP 0 rfl rfl 0 (by decide) (htw _ px_w190) (fun _ h9 => h9) rfl px_d181_4 ?_
  refine va_alen (v := nI l_o) hx hb hK hP 1 0 rfl rfl rfl px_d181_7 ?_
  refine lv_icmp_le (tgt := 25) hx hb px_d181_8 (by decide) (fun c8 => ?_) (fun c8 => ?_)
  · have hw := hw.1 c8
    obtain ⟨k9, hw⟩ := hw
    exact S25 k9 a1x q_o l_o o_reached g_o g_t 0 0 H locs ls (Nat.zero_le mc) (Nat.zero_le ms) hP hD hS (lv_sub hl [0, 1] rfl) hw
  · have hw := hw.2 c8
    refine lv_aload_n hx hb px_d181_11 rfl (lv_at hl 0 rfl) ?_
    refine lv_aload_n hx hb px_d181_12 rfl (lv_at hl 0 rfl) ?_
    refine va_get (D := (dC, dI)) (ci := 1) (v := .ref q_o) (C := "MatroidDesk$Orders") (T := px_T1) (N := 3) hx hb htw px_in1 hown hK hP 0 rfl rfl 0 (by decide) (htw _ px_w190) (fun _ h9 => h9) rfl px_d181_13 ?_
    refine lv_iconst (v := 2) hx hb px_d181_16 (by decide) ?_
    refine lv_iload_n hx hb px_d181_17 rfl (lv_at hl 1 rfl) ?_
    refine lv_ishl hx hb px_d181_18 ?_
    obtain ⟨m19_10, s19_10, hm19_10, hs19_10, hw⟩ := hw
    have hPc := hP.sub (ws' := [(q_o, .inl (c_i, l_o, .inl g_o))]) [1] rfl
    have hDc := hD.sub (ws' := [(q_o, .inl (c_i, l_o, .inl g_o))]) [1] (by decide) rfl
    have hFc := va_free (wc := [(q_o, .inl (c_i, l_o, .inl g_o))]) hD hS hA [1] rfl
    have hKc := hK.sub (tys' := [(c_i, .int)]) [0] rfl
    refine va_callq (va_runS (As := [.ref q_o, .int ((2 : Int32) <<< (a1x &&& 31))]) (rest := [.ref ho]) ⟨hx, hb, hml, hown, htw⟩ (w182_met l dC dI H.size q_o l_o c_i m19_10 s19_10 ((2 : Int32) <<< (a1x &&& 31)) g_o _ hw) (va_cwS 2 htw (px_gs2 px_w1036 px_w1039 px_w1752 px_g182) rfl rfl rfl (by decide +kernel) ⟨Nat.le_of_ble_eq_true rfl, Nat.le_of_ble_eq_true rfl⟩) ⟨fun a U g mk q => by obtain ⟨q0, q1, qP, qK, qD, qN⟩ := q; exact ⟨q0, q1, qP, va_K.moved (u := U) (U := U.calling g mk a) (Vm.Alike.refl U.vm) qK, qD, qN.same rfl⟩, fun U hU hW => ⟨rfl, by rw [hU], by rw [hU]; exact hPc, va_K.moved hW.alike hKc, hDc.weaken (fun _ _ _ _ => trivial), hN.warm hW⟩⟩ rfl rfl hl.1 rfl (lv_room (Nat.le_of_ble_eq_true rfl)) px_d181_19 ⟨hm19_10, hs19_10⟩) hS (fun q _ h => hFc q h) hFc (fun r9 u t H1 locs ht hvm hw hB hz1 hk1 hS => ?_)
    obtain ⟨nq19_9, nn19_9, nf19_9, v8⟩ := u
    obtain ⟨hr9, hw⟩ := hw
    subst hr9
    obtain ⟨hP1, hK1, hD1⟩ := hB
    rw [ht] at hP1
    obtain ⟨hP, hD⟩ := va_join (wr := [(ho, .inr (1, [.ref q_o, .ref q_t, .int o_reached])), (q_t, .inl (c_i, 182, .inl g_t))]) (w1 := [(q_o, .inl (c_i, l_o, .inl v8)), (nq19_9, .inl (c_i, nn19_9, .inl nf19_9))]) hP hD [1] [0, 2] rfl rfl (by decide) (by decide) hk1 hFc hP1 hD1
    generalize H1 = H at hP hS ⊢
    have hP : va_P (dC, dI) vwCl [(ho, .inr (1, [.ref q_o, .ref q_t, .int o_reached])), (q_t, .inl (c_i, 182, .inl g_t)), (q_o, .inl (c_i, l_o, .inl v8)), (nq19_9, .inl (c_i, nn19_9, .inl nf19_9))] H := hP
    have hD : va_D A [(ho, .inr (1, [.ref q_o, .ref q_t, .int o_reached])), (q_t, .inl (c_i, 182, .inl g_t)), (q_o, .inl (c_i, l_o, .inl v8)), (nq19_9, .inl (c_i, nn19_9, .inl nf19_9))] := hD
    refine W.eq (g2 := F0 m 22 ls (.ref nq19_9 :: [.ref ho])) rfl ?_
    have hP := hP.sub (ws' := [(ho, .inr (1, [.ref q_o, .ref q_t, .int o_reached])), (q_o, .inl (c_i, l_o, .inl v8)), (q_t, .inl (c_i, 182, .inl g_t)), (nq19_9, .inl (c_i, nn19_9, .inl nf19_9))]) [0, 2, 1, 3] rfl
    have hD := hD.sub (ws' := [(ho, .inr (1, [.ref q_o, .ref q_t, .int o_reached])), (q_o, .inl (c_i, l_o, .inl v8)), (q_t, .inl (c_i, 182, .inl g_t)), (nq19_9, .inl (c_i, nn19_9, .inl nf19_9))]) [0, 2, 1, 3] (by decide) rfl
    refine va_put (D := (dC, dI)) (ci := 1) (v := .ref nq19_9) (ty := (.array .int)) (C := "MatroidDesk$Orders") (T := px_T1) (N := 3) hx hb htw px_in1 px_ty1 px_tyok1 px_nm1 hown hK hP hD hS 0 rfl rfl 0 (by decide) (htw _ px_w190) (fun _ h9 => h9) rfl (by decide +kernel) rfl rfl (Nat.le_of_ble_eq_true rfl) px_d181_22 (fun H locs hP hD hS => ?_)
    have hP : va_P (dC, dI) vwCl [(ho, .inr (1, [.ref nq19_9, .ref q_t, .int o_reached])), (q_o, .inl (c_i, l_o, .inl v8)), (q_t, .inl (c_i, 182, .inl g_t)), (nq19_9, .inl (c_i, nn19_9, .inl nf19_9))] H := hP
    have hD : va_D A [(ho, .inr (1, [.ref nq19_9, .ref q_t, .int o_reached])), (q_o, .inl (c_i, l_o, .inl v8)), (q_t, .inl (c_i, 182, .inl g_t)), (nq19_9, .inl (c_i, nn19_9, .inl nf19_9))] := hD
    have hP := hP.sub (ws' := [(ho, .inr (1, [.ref nq19_9, .ref q_t, .int o_reached])), (nq19_9, .inl (c_i, nn19_9, .inl nf19_9)), (q_t, .inl (c_i, 182, .inl g_t))]) [0, 3, 2] rfl
    have hD := hD.sub (ws' := [(ho, .inr (1, [.ref nq19_9, .ref q_t, .int o_reached])), (nq19_9, .inl (c_i, nn19_9, .inl nf19_9)), (q_t, .inl (c_i, 182, .inl g_t))]) [0, 3, 2] (by decide) rfl
    obtain ⟨k9, hw⟩ := hw
    exact S25 k9 a1x nq19_9 nn19_9 o_reached nf19_9 g_t (0 + m19_10) (0 + s19_10) H locs ls hm19_10 hs19_10 hP hD hS (lv_sub hl [0, 1] rfl) hw

