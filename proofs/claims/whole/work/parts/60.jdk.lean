/-- as Met.ofW, for a method of a class of which others are run by an entry instead: by the method's name -/
theorem px_ofWF {l : Launch} {y : MethodName} {ws ws' : List Cond} {rm : Room} {Pc : Array Value → State → Prop} {Qc : Array Value → State → Outcome → State → Prop} {mc ms : Nat} {free : Addr → Prop} {cc : ByteArray} {maxL : Nat} {ret : Option FieldType}
    (hy : plainFor y = true) (hw : ws = Cond.code y cc maxL ret :: ws')
    (body : ∀ p e s m args below meth c s₁, BodyLoose p l y (headSpec ws rm) cc maxL ret e s m args below meth c s₁ → c.maxLocals = maxL → Pc args s →
      W p l e (headSpec ws rm).room s m args below meth c s.heap [] 0 0 (MQ below Qc args s mc ms free) (entryFrame m args maxL)) : Met l y ws rm Pc Qc mc ms free := by
  refine MetFree.of_bodySF (code := cc) (maxLocals := maxL) (ret := ret) hy ?_ ?_
  · intro args s m h hn
    obtain ⟨meth, c, h1, h2, h3, h4, h5, h6, -, -⟩ := Cond.code_spec hn (atoms_spec (ws := ws) h _ (by rw [hw]; exact List.mem_cons_self))
    exact ⟨meth, c, h1, h2, h3, h4, h5, h6⟩
  · intro p e s m args below meth c s₁ B hml hP _
    have hh0 : s₁.heap = s.heap := by rw [B.state]; rfl
    obtain ⟨t, a1, o, b1, b2, b3⟩ := body p e s m args below meth c s₁ B hml hP s₁ hh0 (Stand.of_body B)
    exact ⟨t, o, a1, b1, b2, ⟨b3.1, b3.2⟩⟩

/-! java/lang/Integer.bitCount(I)I -/
def w250_wp (post : Int32 → Prop) (a0x : Int32) : Prop := ∀ z1 : Int32, z1 = a0x - ((((a0x : Int32).toUInt32 >>> ((1 : Int32).toUInt32 &&& Int32.toUInt32 31)).toInt32) &&& 1431655765) → ∀ z2 : Int32, z2 = (z1 &&& 858993459) + ((((z1 : Int32).toUInt32 >>> ((2 : Int32).toUInt32 &&& Int32.toUInt32 31)).toInt32) &&& 858993459) → ∀ z3 : Int32, z3 = (z2 + (((z2 : Int32).toUInt32 >>> ((4 : Int32).toUInt32 &&& Int32.toUInt32 31)).toInt32)) &&& 252645135 → ∀ z4 : Int32, z4 = z3 + (((z3 : Int32).toUInt32 >>> ((8 : Int32).toUInt32 &&& Int32.toUInt32 31)).toInt32) → ∀ z5 : Int32, z5 = z4 + (((z4 : Int32).toUInt32 >>> ((16 : Int32).toUInt32 &&& Int32.toUInt32 31)).toInt32) → post (z5 &&& 63) 
set_option maxHeartbeats 8000000 in
set_option maxRecDepth 100000 in
theorem w250_met (l : Launch) (dC : Nat → ClassId) (dI : Nat → Nat → Nat) (sz : Nat) (a0x : Int32) (post : Int32 → Prop) (hw : w250_wp post a0x) : Met l px_y250 px_s250 ({ frames := 0, cells := 0, slots := 0, locals := 0 }) (va_Pc [.int a0x] (fun U => U.heap.size = sz ∧ va_P (dC, dI) vwCl [] U.heap ∧ va_K (dC, dI) vwCl [] U ∧ va_D (fun _ => True) [] ∧ px_N U)) (va_Qi (fun (r : Int32) (u : Unit) => post r ) (fun (u : Unit) (t : State) => va_P (dC, dI) vwCl [] t.heap ∧ va_K (dC, dI) vwCl [] t ∧ va_D (va_A [] sz) []) (va_A [] sz)) 0 0 (va_A [] sz) := by
  refine Met.ofW (cc := prog_23_method_49_code) (maxL := 1) (ret := (some .int)) (by decide) rfl ?_
  intro p e s m args below meth c s₁ B hml hv
  obtain ⟨rfl, hsz, hP, hK, hD0, hN⟩ := hv
  have hx := B.exec
  have hb := B.bytes
  have hr := B.returns
  have htw : ∀ w ∈ px_all, w.before _ s = true := fun w h => atoms_spec (ws := px_s250) B.pre w (List.mem_cons_of_mem _ h)
  have hown : s.vm.findClass "java/lang/Integer" = some m.cls := findClass_of_methodNamed B.named
  have hlocks := B.notSynchronized
  subst hsz
  have hD := hD0.self (sz := s.heap.size)
  generalize hAe : va_A [] s.heap.size = A at hD ⊢
  have hA : ∀ q : Nat, s.heap.size ≤ q → A q := fun q h => by rw [← hAe]; exact Or.inr h
  have hS : va_S A s.heap s.heap [] := va_S.rf
  have hP : va_P (dC, dI) vwCl [] s.heap := hP
  have hl := lv_entry ([.int a0x]) (n := 1) (Nat.le_of_ble_eq_true rfl)
  rw [lg_entry_eq]
  generalize (lg_sl ([.int a0x]) ++ List.replicate (1 - (lg_sl ([.int a0x])).length) Slot.unset).toArray = ls at hl ⊢
  have hl : lv_has ls 1 [(0, .int a0x)] := hl
  generalize hQ : MQ _ _ _ _ _ _ _ = Q
  unfold w250_wp at hw
  have hS0 := hS
  obtain ⟨H, hH9⟩ : ∃ z, z = s.heap := ⟨_, rfl⟩
  have hP : va_P (dC, dI) vwCl [] H := by rw [hH9]; exact hP
  obtain ⟨locs, hlo9⟩ : ∃ z : List Loc, z = [] := ⟨_, rfl⟩
  have hS : va_S A s.heap H locs := by rw [hH9, hlo9]; exact hS
  suffices hG : W p l e (headSpec px_s250 ({ frames := 0, cells := 0, slots := 0, locals := 0 })).room s m ([.int a0x]).toArray below meth c H locs 0 0 Q (F0 m 0 ls []) by rw [hH9, hlo9] at hG; exact hG
  refine lv_iload_n hx hb px_d250_0 rfl (lv_at hl 0 rfl) ?_
  refine lv_iload_n hx hb px_d250_1 rfl (lv_at hl 0 rfl) ?_
  refine lv_iconst (v := 1) hx hb px_d250_2 (by decide) ?_
  refine lv_iushr (v := ((a0x : Int32).toUInt32 >>> ((1 : Int32).toUInt32 &&& Int32.toUInt32 31)).toInt32) hx hb px_d250_3 rfl ?_
  refine lv_ldcw hx hb (own := "java/lang/Integer") (index := 265) (v := 1431655765) hown (htw _ px_w1853) px_d250_4 ?_
  refine lv_iand hx hb px_d250_7 ?_
  refine lv_isub hx hb px_d250_8 ?_
  refine lv_topi (fun z1 ez1 => ?_)
  have hw := hw z1 ez1
  refine lv_istore_n (lv' := [(0, .int z1)]) hx hb px_d250_9 rfl hl (by decide) rfl (fun ls hl => ?_)
  refine lv_iload_n hx hb px_d250_10 rfl (lv_at hl 0 rfl) ?_
  refine lv_ldcw hx hb (own := "java/lang/Integer") (index := 266) (v := 858993459) hown (htw _ px_w1854) px_d250_11 ?_
  refine lv_iand hx hb px_d250_14 ?_
  refine lv_iload_n hx hb px_d250_15 rfl (lv_at hl 0 rfl) ?_
  refine lv_iconst (v := 2) hx hb px_d250_16 (by decide) ?_
  refine lv_iushr (v := ((z1 : Int32).toUInt32 >>> ((2 : Int32).toUInt32 &&& Int32.toUInt32 31)).toInt32) hx hb px_d250_17 rfl ?_
  refine lv_ldcw hx hb (own := "java/lang/Integer") (index := 266) (v := 858993459) hown (htw _ px_w1854) px_d250_18 ?_
  refine lv_iand hx hb px_d250_21 ?_
  refine lv_iadd hx hb px_d250_22 ?_
  refine lv_topi (fun z2 ez2 => ?_)
  have hw := hw z2 ez2
  refine lv_istore_n (lv' := [(0, .int z2)]) hx hb px_d250_23 rfl hl (by decide) rfl (fun ls hl => ?_)
  refine lv_iload_n hx hb px_d250_24 rfl (lv_at hl 0 rfl) ?_
  refine lv_iload_n hx hb px_d250_25 rfl (lv_at hl 0 rfl) ?_
  refine lv_iconst (v := 4) hx hb px_d250_26 (by decide) ?_
  refine lv_iushr (v := ((z2 : Int32).toUInt32 >>> ((4 : Int32).toUInt32 &&& Int32.toUInt32 31)).toInt32) hx hb px_d250_27 rfl ?_
  refine lv_iadd hx hb px_d250_28 ?_
  refine lv_ldcw hx hb (own := "java/lang/Integer") (index := 267) (v := 252645135) hown (htw _ px_w1855) px_d250_29 ?_
  refine lv_iand hx hb px_d250_32 ?_
  refine lv_topi (fun z3 ez3 => ?_)
  have hw := hw z3 ez3
  refine lv_istore_n (lv' := [(0, .int z3)]) hx hb px_d250_33 rfl hl (by decide) rfl (fun ls hl => ?_)
  refine lv_iload_n hx hb px_d250_34 rfl (lv_at hl 0 rfl) ?_
  refine lv_iload_n hx hb px_d250_35 rfl (lv_at hl 0 rfl) ?_
  refine lv_bipush (v := 8) hx hb px_d250_36 (by decide) ?_
  refine lv_iushr (v := ((z3 : Int32).toUInt32 >>> ((8 : Int32).toUInt32 &&& Int32.toUInt32 31)).toInt32) hx hb px_d250_38 rfl ?_
  refine lv_iadd hx hb px_d250_39 ?_
  refine lv_topi (fun z4 ez4 => ?_)
  have hw := hw z4 ez4
  refine lv_istore_n (lv' := [(0, .int z4)]) hx hb px_d250_40 rfl hl (by decide) rfl (fun ls hl => ?_)
  refine lv_iload_n hx hb px_d250_41 rfl (lv_at hl 0 rfl) ?_
  refine lv_iload_n hx hb px_d250_42 rfl (lv_at hl 0 rfl) ?_
  refine lv_bipush (v := 16) hx hb px_d250_43 (by decide) ?_
  refine lv_iushr (v := ((z4 : Int32).toUInt32 >>> ((16 : Int32).toUInt32 &&& Int32.toUInt32 31)).toInt32) hx hb px_d250_45 rfl ?_
  refine lv_iadd hx hb px_d250_46 ?_
  refine lv_topi (fun z5 ez5 => ?_)
  have hw := hw z5 ez5
  refine lv_istore_n (lv' := [(0, .int z5)]) hx hb px_d250_47 rfl hl (by decide) rfl (fun ls hl => ?_)
  refine lv_iload_n hx hb px_d250_48 rfl (lv_at hl 0 rfl) ?_
  refine lv_bipush (v := 63) hx hb px_d250_49 (by decide) ?_
  refine lv_iand hx hb px_d250_51 ?_
  rw [← hQ]
  exact W.iret (v := z5 &&& 63) hx hb hr (fun t ht hW => ⟨⟨z5 &&& 63, (), rfl, hw, by rw [ht]; exact hP, va_K.moved hW.alike hK, hD⟩, hS.F ht⟩) hS.2.2 px_d250_52

/-! java/lang/Long.compare(JJ)I -/
def w326_L21 (post : Int32 → Prop) (x0 : Int64) (x2 : Int64) (y0 : Int32) : Prop := post y0 
def w326_wp (post : Int32 → Prop) (a0x : Int64) (a1x : Int64) : Prop := (0 ≤ (lg_cmp a0x a1x) → (¬ (lg_cmp a0x a1x) = 0 → w326_L21 post a0x a1x 1) ∧ ((lg_cmp a0x a1x) = 0 → w326_L21 post a0x a1x 0)) ∧ (¬ 0 ≤ (lg_cmp a0x a1x) → w326_L21 post a0x a1x (-1))
set_option maxHeartbeats 8000000 in
set_option maxRecDepth 100000 in
theorem w326_met (l : Launch) (dC : Nat → ClassId) (dI : Nat → Nat → Nat) (sz : Nat) (a0x : Int64) (a1x : Int64) (post : Int32 → Prop) (hw : w326_wp post a0x a1x) : Met l px_y326 px_s326 ({ frames := 0, cells := 0, slots := 0, locals := 0 }) (va_Pc [.long a0x, .long a1x] (fun U => U.heap.size = sz ∧ va_P (dC, dI) vwCl [] U.heap ∧ va_K (dC, dI) vwCl [] U ∧ va_D (fun _ => True) [] ∧ px_N U)) (va_Qi (fun (r : Int32) (u : Unit) => post r ) (fun (u : Unit) (t : State) => va_P (dC, dI) vwCl [] t.heap ∧ va_K (dC, dI) vwCl [] t ∧ va_D (va_A [] sz) []) (va_A [] sz)) 0 0 (va_A [] sz) := by
  refine Met.ofW (cc := prog_24_method_42_code) (maxL := 4) (ret := (some .int)) (by decide) rfl ?_
  intro p e s m args below meth c s₁ B hml hv
  obtain ⟨rfl, hsz, hP, hK, hD0, hN⟩ := hv
  have hx := B.exec
  have hb := B.bytes
  have hr := B.returns
  have htw : ∀ w ∈ px_all, w.before _ s = true := fun w h => atoms_spec (ws := px_s326) B.pre w (List.mem_cons_of_mem _ h)
  have hown : s.vm.findClass "java/lang/Long" = some m.cls := findClass_of_methodNamed B.named
  have hlocks := B.notSynchronized
  subst hsz
  have hD := hD0.self (sz := s.heap.size)
  generalize hAe : va_A [] s.heap.size = A at hD ⊢
  have hA : ∀ q : Nat, s.heap.size ≤ q → A q := fun q h => by rw [← hAe]; exact Or.inr h
  have hS : va_S A s.heap s.heap [] := va_S.rf
  have hP : va_P (dC, dI) vwCl [] s.heap := hP
  have hl := lv_entry ([.long a0x, .long a1x]) (n := 4) (Nat.le_of_ble_eq_true rfl)
  rw [lg_entry_eq]
  generalize (lg_sl ([.long a0x, .long a1x]) ++ List.replicate (4 - (lg_sl ([.long a0x, .long a1x])).length) Slot.unset).toArray = ls at hl ⊢
  have hl : lv_has ls 4 [(0, .long a0x), (2, .long a1x)] := hl
  generalize hQ : MQ _ _ _ _ _ _ _ = Q
  have S21 : ∀ (x0 : Int64) (x2 : Int64) (y0 : Int32) (H : Heap) (locs : List Loc) (ls : Array Slot), va_P (dC, dI) vwCl [] H → va_D A [] → va_S A s.heap H locs → lv_has ls 4 [(0, .long x0), (2, .long x2)] → w326_L21 post x0 x2 y0 → W p l e (headSpec px_s326 ({ frames := 0, cells := 0, slots := 0, locals := 0 })).room s m ([.long a0x, .long a1x]).toArray below meth c H locs 0 0 Q (F0 m 21 ls [.int y0]) := by
    intro x0 x2 y0 H locs ls hP hD hS hl hw
    unfold w326_L21 at hw
    rw [← hQ]
    exact W.iret (v := y0) hx hb hr (fun t ht hW => ⟨⟨y0, (), rfl, hw, by rw [ht]; exact hP, va_K.moved hW.alike hK, hD⟩, hS.F ht⟩) hS.2.2 px_d326_21
  unfold w326_wp at hw
  have hS0 := hS
  obtain ⟨H, hH9⟩ : ∃ z, z = s.heap := ⟨_, rfl⟩
  have hP : va_P (dC, dI) vwCl [] H := by rw [hH9]; exact hP
  obtain ⟨locs, hlo9⟩ : ∃ z : List Loc, z = [] := ⟨_, rfl⟩
  have hS : va_S A s.heap H locs := by rw [hH9, hlo9]; exact hS
  suffices hG : W p l e (headSpec px_s326 ({ frames := 0, cells := 0, slots := 0, locals := 0 })).room s m ([.long a0x, .long a1x]).toArray below meth c H locs 0 0 Q (F0 m 0 ls []) by rw [hH9, hlo9] at hG; exact hG
  refine lv_lload_n hx hb px_d326_0 rfl (lv_at hl 0 rfl) ?_
  refine lv_lload_n hx hb px_d326_1 rfl (lv_at hl 1 rfl) ?_
  refine W.lcmp hx hb px_d326_2 ?_
  refine lv_if_ge (tgt := 10) hx hb px_d326_3 (by decide) (fun c3 => ?_) (fun c3 => ?_)
  · have hw := hw.1 c3
    refine lv_lload_n hx hb px_d326_10 rfl (lv_at hl 0 rfl) ?_
    refine lv_lload_n hx hb px_d326_11 rfl (lv_at hl 1 rfl) ?_
    refine W.lcmp hx hb px_d326_12 ?_
    refine lv_if_ne (tgt := 20) hx hb px_d326_13 (by decide) (fun c13 => ?_) (fun c13 => ?_)
    · have hw := hw.1 c13
      refine lv_iconst (v := 1) hx hb px_d326_20 (by decide) ?_
      exact S21 a0x a1x 1 H locs ls hP hD hS (lv_sub hl [0, 1] rfl) hw
    · have hw := hw.2 c13
      refine lv_iconst (v := 0) hx hb px_d326_16 (by decide) ?_
      refine lv_goto (tgt := 21) hx hb px_d326_17 (by decide) ?_
      exact S21 a0x a1x 0 H locs ls hP hD hS (lv_sub hl [0, 1] rfl) hw
  · have hw := hw.2 c3
    refine lv_iconst (v := (-1)) hx hb px_d326_6 (by decide) ?_
    refine lv_goto (tgt := 21) hx hb px_d326_7 (by decide) ?_
    exact S21 a0x a1x (-1) H locs ls hP hD hS (lv_sub hl [0, 1] rfl) hw

/-! java/lang/Math.abs(I)I -/
def w252_L10 (post : Int32 → Prop) (x0 : Int32) (y0 : Int32) : Prop := post y0 
def w252_wp (post : Int32 → Prop) (a0x : Int32) : Prop := (0 ≤ a0x → w252_L10 post a0x a0x) ∧ (¬ 0 ≤ a0x → w252_L10 post a0x (-a0x))
set_option maxHeartbeats 8000000 in
set_option maxRecDepth 100000 in
theorem w252_met (l : Launch) (dC : Nat → ClassId) (dI : Nat → Nat → Nat) (sz : Nat) (a0x : Int32) (post : Int32 → Prop) (hw : w252_wp post a0x) : Met l px_y252 px_s252 ({ frames := 0, cells := 0, slots := 0, locals := 0 }) (va_Pc [.int a0x] (fun U => U.heap.size = sz ∧ va_P (dC, dI) vwCl [] U.heap ∧ va_K (dC, dI) vwCl [] U ∧ va_D (fun _ => True) [] ∧ px_N U)) (va_Qi (fun (r : Int32) (u : Unit) => post r ) (fun (u : Unit) (t : State) => va_P (dC, dI) vwCl [] t.heap ∧ va_K (dC, dI) vwCl [] t ∧ va_D (va_A [] sz) []) (va_A [] sz)) 0 0 (va_A [] sz) := by
  refine px_ofWF (cc := prog_25_method_59_code) (maxL := 1) (ret := (some .int)) (by decide +kernel) rfl ?_
  intro p e s m args below meth c s₁ B hml hv
  obtain ⟨rfl, hsz, hP, hK, hD0, hN⟩ := hv
  have hx := B.exec
  have hb := B.bytes
  have hr := B.returns
  have htw : ∀ w ∈ px_all, w.before _ s = true := fun w h => atoms_spec (ws := px_s252) B.pre w (List.mem_cons_of_mem _ h)
  have hown : s.vm.findClass "java/lang/Math" = some m.cls := findClass_of_methodNamed B.named
  have hlocks := B.notSynchronized
  subst hsz
  have hD := hD0.self (sz := s.heap.size)
  generalize hAe : va_A [] s.heap.size = A at hD ⊢
  have hA : ∀ q : Nat, s.heap.size ≤ q → A q := fun q h => by rw [← hAe]; exact Or.inr h
  have hS : va_S A s.heap s.heap [] := va_S.rf
  have hP : va_P (dC, dI) vwCl [] s.heap := hP
  have hl := lv_entry ([.int a0x]) (n := 1) (Nat.le_of_ble_eq_true rfl)
  rw [lg_entry_eq]
  generalize (lg_sl ([.int a0x]) ++ List.replicate (1 - (lg_sl ([.int a0x])).length) Slot.unset).toArray = ls at hl ⊢
  have hl : lv_has ls 1 [(0, .int a0x)] := hl
  generalize hQ : MQ _ _ _ _ _ _ _ = Q
  have S10 : ∀ (x0 : Int32) (y0 : Int32) (H : Heap) (locs : List Loc) (ls : Array Slot), va_P (dC, dI) vwCl [] H → va_D A [] → va_S A s.heap H locs → lv_has ls 1 [(0, .int x0)] → w252_L10 post x0 y0 → W p l e (headSpec px_s252 ({ frames := 0, cells := 0, slots := 0, locals := 0 })).room s m ([.int a0x]).toArray below meth c H locs 0 0 Q (F0 m 10 ls [.int y0]) := by
    intro x0 y0 H locs ls hP hD hS hl hw
    unfold w252_L10 at hw
    rw [← hQ]
    exact W.iret (v := y0) hx hb hr (fun t ht hW => ⟨⟨y0, (), rfl, hw, by rw [ht]; exact hP, va_K.moved hW.alike hK, hD⟩, hS.F ht⟩) hS.2.2 px_d252_10
  unfold w252_wp at hw
  have hS0 := hS
  obtain ⟨H, hH9⟩ : ∃ z, z = s.heap := ⟨_, rfl⟩
  have hP : va_P (dC, dI) vwCl [] H := by rw [hH9]; exact hP
  obtain ⟨locs, hlo9⟩ : ∃ z : List Loc, z = [] := ⟨_, rfl⟩
  have hS : va_S A s.heap H locs := by rw [hH9, hlo9]; exact hS
  suffices hG : W p l e (headSpec px_s252 ({ frames := 0, cells := 0, slots := 0, locals := 0 })).room s m ([.int a0x]).toArray below meth c H locs 0 0 Q (F0 m 0 ls []) by rw [hH9, hlo9] at hG; exact hG
  refine lv_iload_n hx hb px_d252_0 rfl (lv_at hl 0 rfl) ?_
  refine lv_if_ge (tgt := 9) hx hb px_d252_1 (by decide) (fun c1 => ?_) (fun c1 => ?_)
  · have hw := hw.1 c1
    refine lv_iload_n hx hb px_d252_9 rfl (lv_at hl 0 rfl) ?_
    exact S10 a0x a0x H locs ls hP hD hS (lv_sub hl [0] rfl) hw
  · have hw := hw.2 c1
    refine lv_iload_n hx hb px_d252_4 rfl (lv_at hl 0 rfl) ?_
    refine lv_ineg hx hb px_d252_5 ?_
    refine lv_goto (tgt := 10) hx hb px_d252_6 (by decide) ?_
    exact S10 a0x (-a0x) H locs ls hP hD hS (lv_sub hl [0] rfl) hw

/-! java/lang/Math.max(II)I -/
def w185_L10 (post : Int32 → Prop) (x0 : Int32) (x1 : Int32) (y0 : Int32) : Prop := post y0 
def w185_wp (post : Int32 → Prop) (a0x : Int32) (a1x : Int32) : Prop := (a0x < a1x → w185_L10 post a0x a1x a1x) ∧ (¬ a0x < a1x → w185_L10 post a0x a1x a0x)
set_option maxHeartbeats 8000000 in
set_option maxRecDepth 100000 in
theorem w185_met (l : Launch) (dC : Nat → ClassId) (dI : Nat → Nat → Nat) (sz : Nat) (a0x : Int32) (a1x : Int32) (post : Int32 → Prop) (hw : w185_wp post a0x a1x) : Met l px_y185 px_s185 ({ frames := 0, cells := 0, slots := 0, locals := 0 }) (va_Pc [.int a0x, .int a1x] (fun U => U.heap.size = sz ∧ va_P (dC, dI) vwCl [] U.heap ∧ va_K (dC, dI) vwCl [] U ∧ va_D (fun _ => True) [] ∧ px_N U)) (va_Qi (fun (r : Int32) (u : Unit) => post r ) (fun (u : Unit) (t : State) => va_P (dC, dI) vwCl [] t.heap ∧ va_K (dC, dI) vwCl [] t ∧ va_D (va_A [] sz) []) (va_A [] sz)) 0 0 (va_A [] sz) := by
  refine px_ofWF (cc := prog_25_method_65_code) (maxL := 2) (ret := (some .int)) (by decide +kernel) rfl ?_
  intro p e s m args below meth c s₁ B hml hv
  obtain ⟨rfl, hsz, hP, hK, hD0, hN⟩ := hv
  have hx := B.exec
  have hb := B.bytes
  have hr := B.returns
  have htw : ∀ w ∈ px_all, w.before _ s = true := fun w h => atoms_spec (ws := px_s185) B.pre w (List.mem_cons_of_mem _ h)
  have hown : s.vm.findClass "java/lang/Math" = some m.cls := findClass_of_methodNamed B.named
  have hlocks := B.notSynchronized
  subst hsz
  have hD := hD0.self (sz := s.heap.size)
  generalize hAe : va_A [] s.heap.size = A at hD ⊢
  have hA : ∀ q : Nat, s.heap.size ≤ q → A q := fun q h => by rw [← hAe]; exact Or.inr h
  have hS : va_S A s.heap s.heap [] := va_S.rf
  have hP : va_P (dC, dI) vwCl [] s.heap := hP
  have hl := lv_entry ([.int a0x, .int a1x]) (n := 2) (Nat.le_of_ble_eq_true rfl)
  rw [lg_entry_eq]
  generalize (lg_sl ([.int a0x, .int a1x]) ++ List.replicate (2 - (lg_sl ([.int a0x, .int a1x])).length) Slot.unset).toArray = ls at hl ⊢
  have hl : lv_has ls 2 [(0, .int a0x), (1, .int a1x)] := hl
  generalize hQ : MQ _ _ _ _ _ _ _ = Q
  have S10 : ∀ (x0 : Int32) (x1 : Int32) (y0 : Int32) (H : Heap) (locs : List Loc) (ls : Array Slot), va_P (dC, dI) vwCl [] H → va_D A [] → va_S A s.heap H locs → lv_has ls 2 [(0, .int x0), (1, .int x1)] → w185_L10 post x0 x1 y0 → W p l e (headSpec px_s185 ({ frames := 0, cells := 0, slots := 0, locals := 0 })).room s m ([.int a0x, .int a1x]).toArray below meth c H locs 0 0 Q (F0 m 10 ls [.int y0]) := by
    intro x0 x1 y0 H locs ls hP hD hS hl hw
    unfold w185_L10 at hw
    rw [← hQ]
    exact W.iret (v := y0) hx hb hr (fun t ht hW => ⟨⟨y0, (), rfl, hw, by rw [ht]; exact hP, va_K.moved hW.alike hK, hD⟩, hS.F ht⟩) hS.2.2 px_d185_10
  unfold w185_wp at hw
  have hS0 := hS
  obtain ⟨H, hH9⟩ : ∃ z, z = s.heap := ⟨_, rfl⟩
  have hP : va_P (dC, dI) vwCl [] H := by rw [hH9]; exact hP
  obtain ⟨locs, hlo9⟩ : ∃ z : List Loc, z = [] := ⟨_, rfl⟩
  have hS : va_S A s.heap H locs := by rw [hH9, hlo9]; exact hS
  suffices hG : W p l e (headSpec px_s185 ({ frames := 0, cells := 0, slots := 0, locals := 0 })).room s m ([.int a0x, .int a1x]).toArray below meth c H locs 0 0 Q (F0 m 0 ls []) by rw [hH9, hlo9] at hG; exact hG
  refine lv_iload_n hx hb px_d185_0 rfl (lv_at hl 0 rfl) ?_
  refine lv_iload_n hx hb px_d185_1 rfl (lv_at hl 1 rfl) ?_
  refine lv_icmp_lt (tgt := 9) hx hb px_d185_2 (by decide) (fun c2 => ?_) (fun c2 => ?_)
  · have hw := hw.1 c2
    refine lv_iload_n hx hb px_d185_9 rfl (lv_at hl 1 rfl) ?_
    exact S10 a0x a1x a1x H locs ls hP hD hS (lv_sub hl [0, 1] rfl) hw
  · have hw := hw.2 c2
    refine lv_iload_n hx hb px_d185_5 rfl (lv_at hl 0 rfl) ?_
    refine lv_goto (tgt := 10) hx hb px_d185_6 (by decide) ?_
    exact S10 a0x a1x a0x H locs ls hP hD hS (lv_sub hl [0, 1] rfl) hw

/-! java/lang/Math.min(II)I -/
def w183_L10 (post : Int32 → Prop) (x0 : Int32) (x1 : Int32) (y0 : Int32) : Prop := post y0 
def w183_wp (post : Int32 → Prop) (a0x : Int32) (a1x : Int32) : Prop := (a1x < a0x → w183_L10 post a0x a1x a1x) ∧ (¬ a1x < a0x → w183_L10 post a0x a1x a0x)
set_option maxHeartbeats 8000000 in
set_option maxRecDepth 100000 in
theorem w183_met (l : Launch) (dC : Nat → ClassId) (dI : Nat → Nat → Nat) (sz : Nat) (a0x : Int32) (a1x : Int32) (post : Int32 → Prop) (hw : w183_wp post a0x a1x) : Met l px_y183 px_s183 ({ frames := 0, cells := 0, slots := 0, locals := 0 }) (va_Pc [.int a0x, .int a1x] (fun U => U.heap.size = sz ∧ va_P (dC, dI) vwCl [] U.heap ∧ va_K (dC, dI) vwCl [] U ∧ va_D (fun _ => True) [] ∧ px_N U)) (va_Qi (fun (r : Int32) (u : Unit) => post r ) (fun (u : Unit) (t : State) => va_P (dC, dI) vwCl [] t.heap ∧ va_K (dC, dI) vwCl [] t ∧ va_D (va_A [] sz) []) (va_A [] sz)) 0 0 (va_A [] sz) := by
  refine px_ofWF (cc := prog_25_method_69_code) (maxL := 2) (ret := (some .int)) (by decide +kernel) rfl ?_
  intro p e s m args below meth c s₁ B hml hv
  obtain ⟨rfl, hsz, hP, hK, hD0, hN⟩ := hv
  have hx := B.exec
  have hb := B.bytes
  have hr := B.returns
  have htw : ∀ w ∈ px_all, w.before _ s = true := fun w h => atoms_spec (ws := px_s183) B.pre w (List.mem_cons_of_mem _ h)
  have hown : s.vm.findClass "java/lang/Math" = some m.cls := findClass_of_methodNamed B.named
  have hlocks := B.notSynchronized
  subst hsz
  have hD := hD0.self (sz := s.heap.size)
  generalize hAe : va_A [] s.heap.size = A at hD ⊢
  have hA : ∀ q : Nat, s.heap.size ≤ q → A q := fun q h => by rw [← hAe]; exact Or.inr h
  have hS : va_S A s.heap s.heap [] := va_S.rf
  have hP : va_P (dC, dI) vwCl [] s.heap := hP
  have hl := lv_entry ([.int a0x, .int a1x]) (n := 2) (Nat.le_of_ble_eq_true rfl)
  rw [lg_entry_eq]
  generalize (lg_sl ([.int a0x, .int a1x]) ++ List.replicate (2 - (lg_sl ([.int a0x, .int a1x])).length) Slot.unset).toArray = ls at hl ⊢
  have hl : lv_has ls 2 [(0, .int a0x), (1, .int a1x)] := hl
  generalize hQ : MQ _ _ _ _ _ _ _ = Q
  have S10 : ∀ (x0 : Int32) (x1 : Int32) (y0 : Int32) (H : Heap) (locs : List Loc) (ls : Array Slot), va_P (dC, dI) vwCl [] H → va_D A [] → va_S A s.heap H locs → lv_has ls 2 [(0, .int x0), (1, .int x1)] → w183_L10 post x0 x1 y0 → W p l e (headSpec px_s183 ({ frames := 0, cells := 0, slots := 0, locals := 0 })).room s m ([.int a0x, .int a1x]).toArray below meth c H locs 0 0 Q (F0 m 10 ls [.int y0]) := by
    intro x0 x1 y0 H locs ls hP hD hS hl hw
    unfold w183_L10 at hw
    rw [← hQ]
    exact W.iret (v := y0) hx hb hr (fun t ht hW => ⟨⟨y0, (), rfl, hw, by rw [ht]; exact hP, va_K.moved hW.alike hK, hD⟩, hS.F ht⟩) hS.2.2 px_d183_10
  unfold w183_wp at hw
  have hS0 := hS
  obtain ⟨H, hH9⟩ : ∃ z, z = s.heap := ⟨_, rfl⟩
  have hP : va_P (dC, dI) vwCl [] H := by rw [hH9]; exact hP
  obtain ⟨locs, hlo9⟩ : ∃ z : List Loc, z = [] := ⟨_, rfl⟩
  have hS : va_S A s.heap H locs := by rw [hH9, hlo9]; exact hS
  suffices hG : W p l e (headSpec px_s183 ({ frames := 0, cells := 0, slots := 0, locals := 0 })).room s m ([.int a0x, .int a1x]).toArray below meth c H locs 0 0 Q (F0 m 0 ls []) by rw [hH9, hlo9] at hG; exact hG
  refine lv_iload_n hx hb px_d183_0 rfl (lv_at hl 0 rfl) ?_
  refine lv_iload_n hx hb px_d183_1 rfl (lv_at hl 1 rfl) ?_
  refine lv_icmp_gt (tgt := 9) hx hb px_d183_2 (by decide) (fun c2 => ?_) (fun c2 => ?_)
  · have hw := hw.1 c2
    refine lv_iload_n hx hb px_d183_9 rfl (lv_at hl 1 rfl) ?_
    exact S10 a0x a1x a1x H locs ls hP hD hS (lv_sub hl [0, 1] rfl) hw
  · have hw := hw.2 c2
    refine lv_iload_n hx hb px_d183_5 rfl (lv_at hl 0 rfl) ?_
    refine lv_goto (tgt := 10) hx hb px_d183_6 (by decide) ?_
    exact S10 a0x a1x a0x H locs ls hP hD hS (lv_sub hl [0, 1] rfl) hw

/-! java/lang/Math.floorMod(JJ)J -/
def w242_L25 (post : Int64 → Prop) (x0 : Int64) (x2 : Int64) (x4 : Int64) : Prop := post x4 
def w242_wp (post : Int64 → Prop) (a0x : Int64) (a1x : Int64) : Prop := ¬ a1x = 0 ∧ (∀ z1 : Int64, z1 = a0x - a0x / a1x * a1x → (0 ≤ (lg_cmp (a0x ^^^ a1x) 0) → w242_L25 post a0x a1x z1) ∧ (¬ 0 ≤ (lg_cmp (a0x ^^^ a1x) 0) → ((lg_cmp z1 0) = 0 → w242_L25 post a0x a1x z1) ∧ (¬ (lg_cmp z1 0) = 0 → post (z1 + a1x) )))
set_option maxHeartbeats 8000000 in
set_option maxRecDepth 100000 in
theorem w242_met (l : Launch) (dC : Nat → ClassId) (dI : Nat → Nat → Nat) (sz : Nat) (a0x : Int64) (a1x : Int64) (post : Int64 → Prop) (hw : w242_wp post a0x a1x) : Met l px_y242 px_s242 ({ frames := 0, cells := 0, slots := 0, locals := 0 }) (va_Pc [.long a0x, .long a1x] (fun U => U.heap.size = sz ∧ va_P (dC, dI) vwCl [] U.heap ∧ va_K (dC, dI) vwCl [] U ∧ va_D (fun _ => True) [] ∧ px_N U)) (va_Ql (fun (r : Int64) (u : Unit) => post r ) (fun (u : Unit) (t : State) => va_P (dC, dI) vwCl [] t.heap ∧ va_K (dC, dI) vwCl [] t ∧ va_D (va_A [] sz) []) (va_A [] sz)) 0 0 (va_A [] sz) := by
  refine px_ofWF (cc := prog_25_method_52_code) (maxL := 6) (ret := (some .long)) (by decide +kernel) rfl ?_
  intro p e s m args below meth c s₁ B hml hv
  obtain ⟨rfl, hsz, hP, hK, hD0, hN⟩ := hv
  have hx := B.exec
  have hb := B.bytes
  have hr := B.returns
  have htw : ∀ w ∈ px_all, w.before _ s = true := fun w h => atoms_spec (ws := px_s242) B.pre w (List.mem_cons_of_mem _ h)
  have hown : s.vm.findClass "java/lang/Math" = some m.cls := findClass_of_methodNamed B.named
  have hlocks := B.notSynchronized
  subst hsz
  have hD := hD0.self (sz := s.heap.size)
  generalize hAe : va_A [] s.heap.size = A at hD ⊢
  have hA : ∀ q : Nat, s.heap.size ≤ q → A q := fun q h => by rw [← hAe]; exact Or.inr h
  have hS : va_S A s.heap s.heap [] := va_S.rf
  have hP : va_P (dC, dI) vwCl [] s.heap := hP
  have hl := lv_entry ([.long a0x, .long a1x]) (n := 6) (Nat.le_of_ble_eq_true rfl)
  rw [lg_entry_eq]
  generalize (lg_sl ([.long a0x, .long a1x]) ++ List.replicate (6 - (lg_sl ([.long a0x, .long a1x])).length) Slot.unset).toArray = ls at hl ⊢
  have hl : lv_has ls 6 [(0, .long a0x), (2, .long a1x)] := hl
  generalize hQ : MQ _ _ _ _ _ _ _ = Q
  have S25 : ∀ (x0 : Int64) (x2 : Int64) (x4 : Int64) (H : Heap) (locs : List Loc) (ls : Array Slot), va_P (dC, dI) vwCl [] H → va_D A [] → va_S A s.heap H locs → lv_has ls 6 [(0, .long x0), (2, .long x2), (4, .long x4)] → w242_L25 post x0 x2 x4 → W p l e (headSpec px_s242 ({ frames := 0, cells := 0, slots := 0, locals := 0 })).room s m ([.long a0x, .long a1x]).toArray below meth c H locs 0 0 Q (F0 m 25 ls []) := by
    intro x0 x2 x4 H locs ls hP hD hS hl hw
    unfold w242_L25 at hw
    refine lv_lload hx hb px_d242_25 (lv_at hl 2 rfl) ?_
    rw [← hQ]
    exact W.lret (v := x4) hx hb hr (fun t ht hW => ⟨⟨x4, (), rfl, hw, by rw [ht]; exact hP, va_K.moved hW.alike hK, hD⟩, hS.F ht⟩) hS.2.2 px_d242_27
  unfold w242_wp at hw
  have hS0 := hS
  obtain ⟨H, hH9⟩ : ∃ z, z = s.heap := ⟨_, rfl⟩
  have hP : va_P (dC, dI) vwCl [] H := by rw [hH9]; exact hP
  obtain ⟨locs, hlo9⟩ : ∃ z : List Loc, z = [] := ⟨_, rfl⟩
  have hS : va_S A s.heap H locs := by rw [hH9, hlo9]; exact hS
  suffices hG : W p l e (headSpec px_s242 ({ frames := 0, cells := 0, slots := 0, locals := 0 })).room s m ([.long a0x, .long a1x]).toArray below meth c H locs 0 0 Q (F0 m 0 ls []) by rw [hH9, hlo9] at hG; exact hG
  refine lv_lload_n hx hb px_d242_0 rfl (lv_at hl 0 rfl) ?_
  refine lv_lload_n hx hb px_d242_1 rfl (lv_at hl 1 rfl) ?_
  obtain ⟨hd2, hw⟩ := hw
  refine lv_lrem hx hb px_d242_2 hd2 ?_
  refine lv_topl (fun z1 ez1 => ?_)
  have hw := hw z1 ez1
  refine lv_lstore (lv' := [(4, .long z1), (0, .long a0x), (2, .long a1x)]) hx hb px_d242_3 hl (by decide) rfl (fun ls hl => ?_)
  refine lv_lload_n hx hb px_d242_5 rfl (lv_at hl 1 rfl) ?_
  refine lv_lload_n hx hb px_d242_6 rfl (lv_at hl 2 rfl) ?_
  refine lv_lxor hx hb px_d242_7 ?_
  refine lv_lconst (v := 0) hx hb px_d242_8 (by decide) ?_
  refine W.lcmp hx hb px_d242_9 ?_
  refine lv_if_ge (tgt := 25) hx hb px_d242_10 (by decide) (fun c10 => ?_) (fun c10 => ?_)
  · have hw := hw.1 c10
    exact S25 a0x a1x z1 H locs ls hP hD hS (lv_sub hl [1, 2, 0] rfl) hw
  · have hw := hw.2 c10
    refine lv_lload hx hb px_d242_13 (lv_at hl 0 rfl) ?_
    refine lv_lconst (v := 0) hx hb px_d242_15 (by decide) ?_
    refine W.lcmp hx hb px_d242_16 ?_
    refine lv_if_eq (tgt := 25) hx hb px_d242_17 (by decide) (fun c17 => ?_) (fun c17 => ?_)
    · have hw := hw.1 c17
      exact S25 a0x a1x z1 H locs ls hP hD hS (lv_sub hl [1, 2, 0] rfl) hw
    · have hw := hw.2 c17
      refine lv_lload hx hb px_d242_20 (lv_at hl 0 rfl) ?_
      refine lv_lload_n hx hb px_d242_22 rfl (lv_at hl 2 rfl) ?_
      refine lv_ladd hx hb px_d242_23 ?_
      rw [← hQ]
      exact W.lret (v := z1 + a1x) hx hb hr (fun t ht hW => ⟨⟨z1 + a1x, (), rfl, hw, by rw [ht]; exact hP, va_K.moved hW.alike hK, hD⟩, hS.F ht⟩) hS.2.2 px_d242_24

/-! java/util/Arrays.rangeCheck(III)V -/
def w187_wp (post : Prop) (a0x : Int32) (a1x : Int32) (a2x : Int32) : Prop := (a1x ≤ a2x → (0 ≤ a1x → (a2x ≤ a0x → post ) ∧ (¬ a2x ≤ a0x → False)) ∧ (¬ 0 ≤ a1x → False)) ∧ (¬ a1x ≤ a2x → False)
set_option maxHeartbeats 8000000 in
set_option maxRecDepth 100000 in
theorem w187_met (l : Launch) (dC : Nat → ClassId) (dI : Nat → Nat → Nat) (sz : Nat) (a0x : Int32) (a1x : Int32) (a2x : Int32) (post : Prop) (hw : w187_wp post a0x a1x a2x) : Met l px_y187 px_s187 ({ frames := 0, cells := 0, slots := 0, locals := 0 }) (va_Pc [.int a0x, .int a1x, .int a2x] (fun U => U.heap.size = sz ∧ va_P (dC, dI) vwCl [] U.heap ∧ va_K (dC, dI) vwCl [] U ∧ va_D (fun _ => True) [] ∧ px_N U)) (va_Qv (fun (u : Unit) => post ) (fun (u : Unit) (t : State) => va_P (dC, dI) vwCl [] t.heap ∧ va_K (dC, dI) vwCl [] t ∧ va_D (va_A [] sz) []) (va_A [] sz)) 0 0 (va_A [] sz) := by
  refine Met.ofW (cc := prog_33_method_30_code) (maxL := 3) (ret := none) (by decide) rfl ?_
  intro p e s m args below meth c s₁ B hml hv
  obtain ⟨rfl, hsz, hP, hK, hD0, hN⟩ := hv
  have hx := B.exec
  have hb := B.bytes
  have hr := B.returns
  have htw : ∀ w ∈ px_all, w.before _ s = true := fun w h => atoms_spec (ws := px_s187) B.pre w (List.mem_cons_of_mem _ h)
  have hown : s.vm.findClass "java/util/Arrays" = some m.cls := findClass_of_methodNamed B.named
  have hlocks := B.notSynchronized
  subst hsz
  have hD := hD0.self (sz := s.heap.size)
  generalize hAe : va_A [] s.heap.size = A at hD ⊢
  have hA : ∀ q : Nat, s.heap.size ≤ q → A q := fun q h => by rw [← hAe]; exact Or.inr h
  have hS : va_S A s.heap s.heap [] := va_S.rf
  have hP : va_P (dC, dI) vwCl [] s.heap := hP
  have hl := lv_entry ([.int a0x, .int a1x, .int a2x]) (n := 3) (Nat.le_of_ble_eq_true rfl)
  rw [lg_entry_eq]
  generalize (lg_sl ([.int a0x, .int a1x, .int a2x]) ++ List.replicate (3 - (lg_sl ([.int a0x, .int a1x, .int a2x])).length) Slot.unset).toArray = ls at hl ⊢
  have hl : lv_has ls 3 [(0, .int a0x), (1, .int a1x), (2, .int a2x)] := hl
  generalize hQ : MQ _ _ _ _ _ _ _ = Q
  unfold w187_wp at hw
  have hS0 := hS
  obtain ⟨H, hH9⟩ : ∃ z, z = s.heap := ⟨_, rfl⟩
  have hP : va_P (dC, dI) vwCl [] H := by rw [hH9]; exact hP
  obtain ⟨locs, hlo9⟩ : ∃ z : List Loc, z = [] := ⟨_, rfl⟩
  have hS : va_S A s.heap H locs := by rw [hH9, hlo9]; exact hS
  suffices hG : W p l e (headSpec px_s187 ({ frames := 0, cells := 0, slots := 0, locals := 0 })).room s m ([.int a0x, .int a1x, .int a2x]).toArray below meth c H locs 0 0 Q (F0 m 0 ls []) by rw [hH9, hlo9] at hG; exact hG
  refine lv_iload_n hx hb px_d187_0 rfl (lv_at hl 1 rfl) ?_
  refine lv_iload_n hx hb px_d187_1 rfl (lv_at hl 2 rfl) ?_
  refine lv_icmp_le (tgt := 46) hx hb px_d187_2 (by decide) (fun c2 => ?_) (fun c2 => ?_)
  · have hw := hw.1 c2
    refine lv_iload_n hx hb px_d187_46 rfl (lv_at hl 1 rfl) ?_
    refine lv_if_ge (tgt := 59) hx hb px_d187_47 (by decide) (fun c47 => ?_) (fun c47 => ?_)
    · have hw := hw.1 c47
      refine lv_iload_n hx hb px_d187_59 rfl (lv_at hl 2 rfl) ?_
      refine lv_iload_n hx hb px_d187_60 rfl (lv_at hl 0 rfl) ?_
      refine lv_icmp_le (tgt := 73) hx hb px_d187_61 (by decide) (fun c61 => ?_) (fun c61 => ?_)
      · have hw := hw.1 c61
        rw [← hQ]
        exact W.vret hx hb hr (fun t ht hW => ⟨⟨(), rfl, hw, by rw [ht]; exact hP, va_K.moved hW.alike hK, hD⟩, hS.F ht⟩) hS.2.2 px_d187_73
      · have hw := hw.2 c61
        exact False.elim hw
    · have hw := hw.2 c47
      exact False.elim hw
  · have hw := hw.2 c2
    exact False.elim hw

/-! java/util/Arrays.fill([JIIJ)V -/
def w186_L10 (n_r : Nat) (post : (Nat → Int64) → Prop) : Nat → Int32 → Int32 → Int64 → Int32 → (Nat → Int64) → Prop
  | 0 => fun _ _ _ _ _ => False
  | k + 1 => fun x1 x2 x3 x5 g_r => (x2 ≤ x5 → post g_r) ∧ (¬ x2 ≤ x5 → vp_in x5 n_r ∧ (∀ z1 : Int32, z1 = x5 + 1 → (w186_L10 n_r post k) x1 x2 x3 z1 (vp_updL g_r (Int32.toNatClampNeg x5) x3)))
def w186_wp (n_r : Nat) (post : (Nat → Int64) → Prop) (a1x : Int32) (a2x : Int32) (a3x : Int64) (g_r : Nat → Int64) : Prop := w187_wp (∃ j10, w186_L10 n_r post j10 a1x a2x a3x a1x g_r) (nI n_r) a1x a2x
set_option maxHeartbeats 8000000 in
set_option maxRecDepth 100000 in
theorem w186_met (l : Launch) (dC : Nat → ClassId) (dI : Nat → Nat → Nat) (sz : Nat) (r0 : Nat) (n_r : Nat) (c_r : ClassId) (a1x : Int32) (a2x : Int32) (a3x : Int64) (g_r : Nat → Int64) (post : (Nat → Int64) → Prop) (hw : w186_wp n_r post a1x a2x a3x g_r) : Met l px_y186 px_s186 ({ frames := 1, cells := 0, slots := 0, locals := 22 }) (va_Pc [.ref r0, .int a1x, .int a2x, .long a3x] (fun U => U.heap.size = sz ∧ va_P (dC, dI) vwCl [(r0, .inl (c_r, n_r, .inr (.inl g_r)))] U.heap ∧ va_K (dC, dI) vwCl [(c_r, .long)] U ∧ va_D (fun _ => True) [(r0, .inl (c_r, n_r, .inr (.inl g_r)))] ∧ px_N U)) (va_Qv (fun (u : (Nat → Int64)) => post u) (fun (u : (Nat → Int64)) (t : State) => va_P (dC, dI) vwCl [(r0, .inl (c_r, n_r, .inr (.inl u)))] t.heap ∧ va_K (dC, dI) vwCl [(c_r, .long)] t ∧ va_D (va_A [(r0, .inl (c_r, n_r, .inr (.inl g_r)))] sz) [(r0, .inl (c_r, n_r, .inr (.inl u)))]) (va_A [(r0, .inl (c_r, n_r, .inr (.inl g_r)))] sz)) 0 0 (va_A [(r0, .inl (c_r, n_r, .inr (.inl g_r)))] sz) := by
  refine Met.ofW (cc := prog_33_method_102_code) (maxL := 6) (ret := none) (by decide) rfl ?_
  intro p e s m args below meth c s₁ B hml hv
  obtain ⟨rfl, hsz, hP, hK, hD0, hN⟩ := hv
  have hx := B.exec
  have hb := B.bytes
  have hr := B.returns
  have htw : ∀ w ∈ px_all, w.before _ s = true := fun w h => atoms_spec (ws := px_s186) B.pre w (List.mem_cons_of_mem _ h)
  have hown : s.vm.findClass "java/util/Arrays" = some m.cls := findClass_of_methodNamed B.named
  have hlocks := B.notSynchronized
  subst hsz
  have hD := hD0.self (sz := s.heap.size)
  generalize hAe : va_A [(r0, .inl (c_r, n_r, .inr (.inl g_r)))] s.heap.size = A at hD ⊢
  have hA : ∀ q : Nat, s.heap.size ≤ q → A q := fun q h => by rw [← hAe]; exact Or.inr h
  have hS : va_S A s.heap s.heap [] := va_S.rf
  have hP : va_P (dC, dI) vwCl [(r0, .inl (c_r, n_r, .inr (.inl g_r)))] s.heap := hP
  have hl := lv_entry ([.ref r0, .int a1x, .int a2x, .long a3x]) (n := 6) (Nat.le_of_ble_eq_true rfl)
  rw [lg_entry_eq]
  generalize (lg_sl ([.ref r0, .int a1x, .int a2x, .long a3x]) ++ List.replicate (6 - (lg_sl ([.ref r0, .int a1x, .int a2x, .long a3x])).length) Slot.unset).toArray = ls at hl ⊢
  have hl : lv_has ls 6 [(0, .ref r0), (1, .int a1x), (2, .int a2x), (3, .long a3x)] := hl
  generalize hQ : MQ _ _ _ _ _ _ _ = Q
  have S10 : ∀ (k10 : Nat) (x1 : Int32) (x2 : Int32) (x3 : Int64) (x5 : Int32) (g_r : Nat → Int64) (H : Heap) (locs : List Loc) (ls : Array Slot), va_P (dC, dI) vwCl [(r0, .inl (c_r, n_r, .inr (.inl g_r)))] H → va_D A [(r0, .inl (c_r, n_r, .inr (.inl g_r)))] → va_S A s.heap H locs → lv_has ls 6 [(0, .ref r0), (1, .int x1), (2, .int x2), (3, .long x3), (5, .int x5)] → w186_L10 n_r post k10 x1 x2 x3 x5 g_r → W p l e (headSpec px_s186 ({ frames := 1, cells := 0, slots := 0, locals := 22 })).room s m ([.ref r0, .int a1x, .int a2x, .long a3x]).toArray below meth c H locs 0 0 Q (F0 m 10 ls []) := by
    intro k10
    induction k10 with
    | zero => intro x1 x2 x3 x5 g_r H locs ls hP hD hS hl hw; exact False.elim hw
    | succ k10 ih10 =>
      intro x1 x2 x3 x5 g_r H locs ls hP hD hS hl hw
      unfold w186_L10 at hw
      refine lv_iload hx hb px_d186_10 (lv_at hl 4 rfl) ?_
      refine lv_iload_n hx hb px_d186_12 rfl (lv_at hl 2 rfl) ?_
      refine lv_icmp_ge (tgt := 27) hx hb px_d186_13 (by decide) (fun c13 => ?_) (fun c13 => ?_)
      · have hw := hw.1 c13
        rw [← hQ]
        exact W.vret hx hb hr (fun t ht hW => ⟨⟨g_r, rfl, hw, by rw [ht]; exact hP, va_K.moved hW.alike hK, hD⟩, hS.F ht⟩) hS.2.2 px_d186_27
      · have hw := hw.2 c13
        refine lv_aload_n hx hb px_d186_16 rfl (lv_at hl 0 rfl) ?_
        refine lv_iload hx hb px_d186_17 (lv_at hl 4 rfl) ?_
        refine lv_lload_n hx hb px_d186_19 rfl (lv_at hl 3 rfl) ?_
        obtain ⟨hi20, hw⟩ := hw
        refine va_last hx hb hK hP hD hS 0 0 rfl rfl hi20 px_d186_20 (fun H locs hP hD hS => ?_)
        have hP : va_P (dC, dI) vwCl [(r0, .inl (c_r, n_r, .inr (.inl (vp_updL g_r (Int32.toNatClampNeg x5) x3))))] H := hP
        have hD : va_D A [(r0, .inl (c_r, n_r, .inr (.inl (vp_updL g_r (Int32.toNatClampNeg x5) x3))))] := hD
        obtain ⟨z1, ez1⟩ : ∃ y : Int32, y = x5 + 1 := ⟨_, rfl⟩
        have hw := hw z1 ez1
        refine lv_iinc (v := z1) (lv' := [(5, .int z1), (0, .ref r0), (1, .int x1), (2, .int x2), (3, .long x3)]) hx hb px_d186_21 hl (k := 4) rfl (by rw [ez1]; rfl) (by decide) rfl (fun ls hl => ?_)
        refine lv_goto (tgt := 10) hx hb px_d186_24 (by decide) ?_
        exact ih10 x1 x2 x3 z1 (vp_updL g_r (Int32.toNatClampNeg x5) x3) H locs ls hP hD hS (lv_sub hl [1, 2, 3, 4, 0] rfl) hw
  unfold w186_wp at hw
  have hS0 := hS
  obtain ⟨H, hH9⟩ : ∃ z, z = s.heap := ⟨_, rfl⟩
  have hP : va_P (dC, dI) vwCl [(r0, .inl (c_r, n_r, .inr (.inl g_r)))] H := by rw [hH9]; exact hP
  obtain ⟨locs, hlo9⟩ : ∃ z : List Loc, z = [] := ⟨_, rfl⟩
  have hS : va_S A s.heap H locs := by rw [hH9, hlo9]; exact hS
  suffices hG : W p l e (headSpec px_s186 ({ frames := 1, cells := 0, slots := 0, locals := 22 })).room s m ([.ref r0, .int a1x, .int a2x, .long a3x]).toArray below meth c H locs 0 0 Q (F0 m 0 ls []) by rw [hH9, hlo9] at hG; exact hG
  refine lv_aload_n hx hb px_d186_0 rfl (lv_at hl 0 rfl) ?_
  refine va_alen (v := nI n_r) hx hb hK hP 0 0 rfl rfl rfl px_d186_1 ?_
  refine lv_iload_n hx hb px_d186_2 rfl (lv_at hl 1 rfl) ?_
  refine lv_iload_n hx hb px_d186_3 rfl (lv_at hl 2 rfl) ?_
  have hPc := hP.sub (ws' := []) [] rfl
  have hDc := hD.sub (ws' := []) [] (by decide) rfl
  have hKc := hK.sub (tys' := []) [] rfl
  have hFc := va_free (wc := []) hD hS hA [] rfl
  refine va_callv (va_runS (As := [.int (nI n_r), .int a1x, .int a2x]) (rest := []) ⟨hx, hb, hml, hown, htw⟩ (w187_met l dC dI H.size (nI n_r) a1x a2x _ hw) (cwS 3 htw (px_gs px_w1051 px_w1053 px_w1752 px_g187) rfl rfl rfl (by decide +kernel) ⟨Nat.le_of_ble_eq_true rfl, Nat.le_of_ble_eq_true rfl⟩) ⟨fun a U g mk q => by obtain ⟨q0, q1, qP, qK, qD, qN⟩ := q; exact ⟨q0, q1, qP, va_K.moved (u := U) (U := U.calling g mk a) (Vm.Alike.refl U.vm) qK, qD, qN.same rfl⟩, fun U hU hW => ⟨rfl, by rw [hU], by rw [hU]; exact hPc, va_K.moved hW.alike hKc, hDc.weaken (fun _ _ _ _ => trivial), hN.warm hW⟩⟩ rfl rfl hl.1 rfl (lv_room (Nat.le_of_ble_eq_true rfl)) px_d186_4 ⟨(Nat.le_of_ble_eq_true rfl), (Nat.le_of_ble_eq_true rfl)⟩) hS (fun q _ h => hFc q h) hFc (fun u t H1 locs ht hvm hw hB hz1 hk1 hS => ?_)
  obtain ⟨hP1, hK1, hD1⟩ := hB
  rw [ht] at hP1
  have hK1 := va_K.moved hvm.symm hK1
  obtain ⟨hP, hD⟩ := va_join (wr := [(r0, .inl (c_r, n_r, .inr (.inl g_r)))]) (w1 := []) hP hD [] [0] rfl rfl (by decide) (by decide) hk1 hFc hP1 hD1
  generalize H1 = H at hP hS ⊢
  have hP : va_P (dC, dI) vwCl [(r0, .inl (c_r, n_r, .inr (.inl g_r)))] H := hP
  have hD : va_D A [(r0, .inl (c_r, n_r, .inr (.inl g_r)))] := hD
  refine lv_iload_n hx hb px_d186_7 rfl (lv_at hl 1 rfl) ?_
  refine lv_istore (lv' := [(5, .int a1x), (0, .ref r0), (1, .int a1x), (2, .int a2x), (3, .long a3x)]) hx hb px_d186_8 hl (by decide) rfl (fun ls hl => ?_)
  obtain ⟨k9, hw⟩ := hw
  exact S10 k9 a1x a2x a3x a1x g_r H locs ls hP hD hS (lv_sub hl [1, 2, 3, 4, 0] rfl) hw

/-! java/util/Arrays.fill([II)V -/
def w247_L5 (n_r : Nat) (post : (Nat → Int32) → Prop) : Nat → Int32 → Int32 → Int32 → (Nat → Int32) → Prop
  | 0 => fun _ _ _ _ => False
  | k + 1 => fun x1 x2 x3 g_r => (x3 ≤ x2 → post g_r) ∧ (¬ x3 ≤ x2 → vp_in x2 n_r ∧ (∀ z1 : Int32, z1 = x2 + 1 → (w247_L5 n_r post k) x1 z1 x3 (upd g_r (Int32.toNatClampNeg x2) x1)))
def w247_wp (n_r : Nat) (post : (Nat → Int32) → Prop) (a1x : Int32) (g_r : Nat → Int32) : Prop := ∀ z2 : Int32, z2 = nI n_r → ∃ j5, w247_L5 n_r post j5 a1x 0 z2 g_r
set_option maxHeartbeats 8000000 in
set_option maxRecDepth 100000 in
theorem w247_met (l : Launch) (dC : Nat → ClassId) (dI : Nat → Nat → Nat) (sz : Nat) (r0 : Nat) (n_r : Nat) (c_r : ClassId) (a1x : Int32) (g_r : Nat → Int32) (post : (Nat → Int32) → Prop) (hw : w247_wp n_r post a1x g_r) : Met l px_y247 px_s247 ({ frames := 0, cells := 0, slots := 0, locals := 0 }) (va_Pc [.ref r0, .int a1x] (fun U => U.heap.size = sz ∧ va_P (dC, dI) vwCl [(r0, .inl (c_r, n_r, .inl g_r))] U.heap ∧ va_K (dC, dI) vwCl [(c_r, .int)] U ∧ va_D (fun _ => True) [(r0, .inl (c_r, n_r, .inl g_r))] ∧ px_N U)) (va_Qv (fun (u : (Nat → Int32)) => post u) (fun (u : (Nat → Int32)) (t : State) => va_P (dC, dI) vwCl [(r0, .inl (c_r, n_r, .inl u))] t.heap ∧ va_K (dC, dI) vwCl [(c_r, .int)] t ∧ va_D (va_A [(r0, .inl (c_r, n_r, .inl g_r))] sz) [(r0, .inl (c_r, n_r, .inl u))]) (va_A [(r0, .inl (c_r, n_r, .inl g_r))] sz)) 0 0 (va_A [(r0, .inl (c_r, n_r, .inl g_r))] sz) := by
  refine Met.ofW (cc := prog_33_method_103_code) (maxL := 4) (ret := none) (by decide) rfl ?_
  intro p e s m args below meth c s₁ B hml hv
  obtain ⟨rfl, hsz, hP, hK, hD0, hN⟩ := hv
  have hx := B.exec
  have hb := B.bytes
  have hr := B.returns
  have htw : ∀ w ∈ px_all, w.before _ s = true := fun w h => atoms_spec (ws := px_s247) B.pre w (List.mem_cons_of_mem _ h)
  have hown : s.vm.findClass "java/util/Arrays" = some m.cls := findClass_of_methodNamed B.named
  have hlocks := B.notSynchronized
  subst hsz
  have hD := hD0.self (sz := s.heap.size)
  generalize hAe : va_A [(r0, .inl (c_r, n_r, .inl g_r))] s.heap.size = A at hD ⊢
  have hA : ∀ q : Nat, s.heap.size ≤ q → A q := fun q h => by rw [← hAe]; exact Or.inr h
  have hS : va_S A s.heap s.heap [] := va_S.rf
  have hP : va_P (dC, dI) vwCl [(r0, .inl (c_r, n_r, .inl g_r))] s.heap := hP
  have hl := lv_entry ([.ref r0, .int a1x]) (n := 4) (Nat.le_of_ble_eq_true rfl)
  rw [lg_entry_eq]
  generalize (lg_sl ([.ref r0, .int a1x]) ++ List.replicate (4 - (lg_sl ([.ref r0, .int a1x])).length) Slot.unset).toArray = ls at hl ⊢
  have hl : lv_has ls 4 [(0, .ref r0), (1, .int a1x)] := hl
  generalize hQ : MQ _ _ _ _ _ _ _ = Q
  have S5 : ∀ (k5 : Nat) (x1 : Int32) (x2 : Int32) (x3 : Int32) (g_r : Nat → Int32) (H : Heap) (locs : List Loc) (ls : Array Slot), va_P (dC, dI) vwCl [(r0, .inl (c_r, n_r, .inl g_r))] H → va_D A [(r0, .inl (c_r, n_r, .inl g_r))] → va_S A s.heap H locs → lv_has ls 4 [(0, .ref r0), (1, .int x1), (2, .int x2), (3, .int x3)] → w247_L5 n_r post k5 x1 x2 x3 g_r → W p l e (headSpec px_s247 ({ frames := 0, cells := 0, slots := 0, locals := 0 })).room s m ([.ref r0, .int a1x]).toArray below meth c H locs 0 0 Q (F0 m 5 ls []) := by
    intro k5
    induction k5 with
    | zero => intro x1 x2 x3 g_r H locs ls hP hD hS hl hw; exact False.elim hw
    | succ k5 ih5 =>
      intro x1 x2 x3 g_r H locs ls hP hD hS hl hw
      unfold w247_L5 at hw
      refine lv_iload_n hx hb px_d247_5 rfl (lv_at hl 2 rfl) ?_
      refine lv_iload_n hx hb px_d247_6 rfl (lv_at hl 3 rfl) ?_
      refine lv_icmp_ge (tgt := 20) hx hb px_d247_7 (by decide) (fun c7 => ?_) (fun c7 => ?_)
      · have hw := hw.1 c7
        rw [← hQ]
        exact W.vret hx hb hr (fun t ht hW => ⟨⟨g_r, rfl, hw, by rw [ht]; exact hP, va_K.moved hW.alike hK, hD⟩, hS.F ht⟩) hS.2.2 px_d247_20
      · have hw := hw.2 c7
        refine lv_aload_n hx hb px_d247_10 rfl (lv_at hl 0 rfl) ?_
        refine lv_iload_n hx hb px_d247_11 rfl (lv_at hl 2 rfl) ?_
        refine lv_iload_n hx hb px_d247_12 rfl (lv_at hl 1 rfl) ?_
        obtain ⟨hi13, hw⟩ := hw
        refine va_iast hx hb hK hP hD hS 0 0 rfl rfl hi13 px_d247_13 (fun H locs hP hD hS => ?_)
        have hP : va_P (dC, dI) vwCl [(r0, .inl (c_r, n_r, .inl (upd g_r (Int32.toNatClampNeg x2) x1)))] H := hP
        have hD : va_D A [(r0, .inl (c_r, n_r, .inl (upd g_r (Int32.toNatClampNeg x2) x1)))] := hD
        obtain ⟨z1, ez1⟩ : ∃ y : Int32, y = x2 + 1 := ⟨_, rfl⟩
        have hw := hw z1 ez1
        refine lv_iinc (v := z1) (lv' := [(2, .int z1), (0, .ref r0), (1, .int x1), (3, .int x3)]) hx hb px_d247_14 hl (k := 2) rfl (by rw [ez1]; rfl) (by decide) rfl (fun ls hl => ?_)
        refine lv_goto (tgt := 5) hx hb px_d247_17 (by decide) ?_
        exact ih5 x1 z1 x3 (upd g_r (Int32.toNatClampNeg x2) x1) H locs ls hP hD hS (lv_sub hl [1, 2, 0, 3] rfl) hw
  unfold w247_wp at hw
  have hS0 := hS
  obtain ⟨H, hH9⟩ : ∃ z, z = s.heap := ⟨_, rfl⟩
  have hP : va_P (dC, dI) vwCl [(r0, .inl (c_r, n_r, .inl g_r))] H := by rw [hH9]; exact hP
  obtain ⟨locs, hlo9⟩ : ∃ z : List Loc, z = [] := ⟨_, rfl⟩
  have hS : va_S A s.heap H locs := by rw [hH9, hlo9]; exact hS
  suffices hG : W p l e (headSpec px_s247 ({ frames := 0, cells := 0, slots := 0, locals := 0 })).room s m ([.ref r0, .int a1x]).toArray below meth c H locs 0 0 Q (F0 m 0 ls []) by rw [hH9, hlo9] at hG; exact hG
  refine lv_iconst (v := 0) hx hb px_d247_0 (by decide) ?_
  refine lv_istore_n (lv' := [(2, .int 0), (0, .ref r0), (1, .int a1x)]) hx hb px_d247_1 rfl hl (by decide) rfl (fun ls hl => ?_)
  refine lv_aload_n hx hb px_d247_2 rfl (lv_at hl 1 rfl) ?_
  refine va_alen (v := nI n_r) hx hb hK hP 0 0 rfl rfl rfl px_d247_3 ?_
  refine lv_topi (fun z2 ez2 => ?_)
  have hw := hw z2 ez2
  refine lv_istore_n (lv' := [(3, .int z2), (2, .int 0), (0, .ref r0), (1, .int a1x)]) hx hb px_d247_4 rfl hl (by decide) rfl (fun ls hl => ?_)
  obtain ⟨k9, hw⟩ := hw
  exact S5 k9 a1x 0 z2 g_r H locs ls hP hD hS (lv_sub hl [2, 3, 1, 0] rfl) hw

/-! java/util/Arrays.fill([IIII)V -/
def w254_L10 (n_r : Nat) (post : (Nat → Int32) → Prop) : Nat → Int32 → Int32 → Int32 → Int32 → (Nat → Int32) → Prop
  | 0 => fun _ _ _ _ _ => False
  | k + 1 => fun x1 x2 x3 x4 g_r => (x2 ≤ x4 → post g_r) ∧ (¬ x2 ≤ x4 → vp_in x4 n_r ∧ (∀ z1 : Int32, z1 = x4 + 1 → (w254_L10 n_r post k) x1 x2 x3 z1 (upd g_r (Int32.toNatClampNeg x4) x3)))
def w254_wp (n_r : Nat) (post : (Nat → Int32) → Prop) (a1x : Int32) (a2x : Int32) (a3x : Int32) (g_r : Nat → Int32) : Prop := w187_wp (∃ j10, w254_L10 n_r post j10 a1x a2x a3x a1x g_r) (nI n_r) a1x a2x
set_option maxHeartbeats 8000000 in
set_option maxRecDepth 100000 in
theorem w254_met (l : Launch) (dC : Nat → ClassId) (dI : Nat → Nat → Nat) (sz : Nat) (r0 : Nat) (n_r : Nat) (c_r : ClassId) (a1x : Int32) (a2x : Int32) (a3x : Int32) (g_r : Nat → Int32) (post : (Nat → Int32) → Prop) (hw : w254_wp n_r post a1x a2x a3x g_r) : Met l px_y254 px_s254 ({ frames := 1, cells := 0, slots := 0, locals := 22 }) (va_Pc [.ref r0, .int a1x, .int a2x, .int a3x] (fun U => U.heap.size = sz ∧ va_P (dC, dI) vwCl [(r0, .inl (c_r, n_r, .inl g_r))] U.heap ∧ va_K (dC, dI) vwCl [(c_r, .int)] U ∧ va_D (fun _ => True) [(r0, .inl (c_r, n_r, .inl g_r))] ∧ px_N U)) (va_Qv (fun (u : (Nat → Int32)) => post u) (fun (u : (Nat → Int32)) (t : State) => va_P (dC, dI) vwCl [(r0, .inl (c_r, n_r, .inl u))] t.heap ∧ va_K (dC, dI) vwCl [(c_r, .int)] t ∧ va_D (va_A [(r0, .inl (c_r, n_r, .inl g_r))] sz) [(r0, .inl (c_r, n_r, .inl u))]) (va_A [(r0, .inl (c_r, n_r, .inl g_r))] sz)) 0 0 (va_A [(r0, .inl (c_r, n_r, .inl g_r))] sz) := by
  refine Met.ofW (cc := prog_33_method_104_code) (maxL := 5) (ret := none) (by decide) rfl ?_
  intro p e s m args below meth c s₁ B hml hv
  obtain ⟨rfl, hsz, hP, hK, hD0, hN⟩ := hv
  have hx := B.exec
  have hb := B.bytes
  have hr := B.returns
  have htw : ∀ w ∈ px_all, w.before _ s = true := fun w h => atoms_spec (ws := px_s254) B.pre w (List.mem_cons_of_mem _ h)
  have hown : s.vm.findClass "java/util/Arrays" = some m.cls := findClass_of_methodNamed B.named
  have hlocks := B.notSynchronized
  subst hsz
  have hD := hD0.self (sz := s.heap.size)
  generalize hAe : va_A [(r0, .inl (c_r, n_r, .inl g_r))] s.heap.size = A at hD ⊢
  have hA : ∀ q : Nat, s.heap.size ≤ q → A q := fun q h => by rw [← hAe]; exact Or.inr h
  have hS : va_S A s.heap s.heap [] := va_S.rf
  have hP : va_P (dC, dI) vwCl [(r0, .inl (c_r, n_r, .inl g_r))] s.heap := hP
  have hl := lv_entry ([.ref r0, .int a1x, .int a2x, .int a3x]) (n := 5) (Nat.le_of_ble_eq_true rfl)
  rw [lg_entry_eq]
  generalize (lg_sl ([.ref r0, .int a1x, .int a2x, .int a3x]) ++ List.replicate (5 - (lg_sl ([.ref r0, .int a1x, .int a2x, .int a3x])).length) Slot.unset).toArray = ls at hl ⊢
  have hl : lv_has ls 5 [(0, .ref r0), (1, .int a1x), (2, .int a2x), (3, .int a3x)] := hl
  generalize hQ : MQ _ _ _ _ _ _ _ = Q
  have S10 : ∀ (k10 : Nat) (x1 : Int32) (x2 : Int32) (x3 : Int32) (x4 : Int32) (g_r : Nat → Int32) (H : Heap) (locs : List Loc) (ls : Array Slot), va_P (dC, dI) vwCl [(r0, .inl (c_r, n_r, .inl g_r))] H → va_D A [(r0, .inl (c_r, n_r, .inl g_r))] → va_S A s.heap H locs → lv_has ls 5 [(0, .ref r0), (1, .int x1), (2, .int x2), (3, .int x3), (4, .int x4)] → w254_L10 n_r post k10 x1 x2 x3 x4 g_r → W p l e (headSpec px_s254 ({ frames := 1, cells := 0, slots := 0, locals := 22 })).room s m ([.ref r0, .int a1x, .int a2x, .int a3x]).toArray below meth c H locs 0 0 Q (F0 m 10 ls []) := by
    intro k10
    induction k10 with
    | zero => intro x1 x2 x3 x4 g_r H locs ls hP hD hS hl hw; exact False.elim hw
    | succ k10 ih10 =>
      intro x1 x2 x3 x4 g_r H locs ls hP hD hS hl hw
      unfold w254_L10 at hw
      refine lv_iload hx hb px_d254_10 (lv_at hl 4 rfl) ?_
      refine lv_iload_n hx hb px_d254_12 rfl (lv_at hl 2 rfl) ?_
      refine lv_icmp_ge (tgt := 27) hx hb px_d254_13 (by decide) (fun c13 => ?_) (fun c13 => ?_)
      · have hw := hw.1 c13
        rw [← hQ]
        exact W.vret hx hb hr (fun t ht hW => ⟨⟨g_r, rfl, hw, by rw [ht]; exact hP, va_K.moved hW.alike hK, hD⟩, hS.F ht⟩) hS.2.2 px_d254_27
      · have hw := hw.2 c13
        refine lv_aload_n hx hb px_d254_16 rfl (lv_at hl 0 rfl) ?_
        refine lv_iload hx hb px_d254_17 (lv_at hl 4 rfl) ?_
        refine lv_iload_n hx hb px_d254_19 rfl (lv_at hl 3 rfl) ?_
        obtain ⟨hi20, hw⟩ := hw
        refine va_iast hx hb hK hP hD hS 0 0 rfl rfl hi20 px_d254_20 (fun H locs hP hD hS => ?_)
        have hP : va_P (dC, dI) vwCl [(r0, .inl (c_r, n_r, .inl (upd g_r (Int32.toNatClampNeg x4) x3)))] H := hP
        have hD : va_D A [(r0, .inl (c_r, n_r, .inl (upd g_r (Int32.toNatClampNeg x4) x3)))] := hD
        obtain ⟨z1, ez1⟩ : ∃ y : Int32, y = x4 + 1 := ⟨_, rfl⟩
        have hw := hw z1 ez1
        refine lv_iinc (v := z1) (lv' := [(4, .int z1), (0, .ref r0), (1, .int x1), (2, .int x2), (3, .int x3)]) hx hb px_d254_21 hl (k := 4) rfl (by rw [ez1]; rfl) (by decide) rfl (fun ls hl => ?_)
        refine lv_goto (tgt := 10) hx hb px_d254_24 (by decide) ?_
        exact ih10 x1 x2 x3 z1 (upd g_r (Int32.toNatClampNeg x4) x3) H locs ls hP hD hS (lv_sub hl [1, 2, 3, 4, 0] rfl) hw
  unfold w254_wp at hw
  have hS0 := hS
  obtain ⟨H, hH9⟩ : ∃ z, z = s.heap := ⟨_, rfl⟩
  have hP : va_P (dC, dI) vwCl [(r0, .inl (c_r, n_r, .inl g_r))] H := by rw [hH9]; exact hP
  obtain ⟨locs, hlo9⟩ : ∃ z : List Loc, z = [] := ⟨_, rfl⟩
  have hS : va_S A s.heap H locs := by rw [hH9, hlo9]; exact hS
  suffices hG : W p l e (headSpec px_s254 ({ frames := 1, cells := 0, slots := 0, locals := 22 })).room s m ([.ref r0, .int a1x, .int a2x, .int a3x]).toArray below meth c H locs 0 0 Q (F0 m 0 ls []) by rw [hH9, hlo9] at hG; exact hG
  refine lv_aload_n hx hb px_d254_0 rfl (lv_at hl 0 rfl) ?_
  refine va_alen (v := nI n_r) hx hb hK hP 0 0 rfl rfl rfl px_d254_1 ?_
  refine lv_iload_n hx hb px_d254_2 rfl (lv_at hl 1 rfl) ?_
  refine lv_iload_n hx hb px_d254_3 rfl (lv_at hl 2 rfl) ?_
  have hPc := hP.sub (ws' := []) [] rfl
  have hDc := hD.sub (ws' := []) [] (by decide) rfl
  have hKc := hK.sub (tys' := []) [] rfl
  have hFc := va_free (wc := []) hD hS hA [] rfl
  refine va_callv (va_runS (As := [.int (nI n_r), .int a1x, .int a2x]) (rest := []) ⟨hx, hb, hml, hown, htw⟩ (w187_met l dC dI H.size (nI n_r) a1x a2x _ hw) (cwS 3 htw (px_gs px_w1051 px_w1053 px_w1752 px_g187) rfl rfl rfl (by decide +kernel) ⟨Nat.le_of_ble_eq_true rfl, Nat.le_of_ble_eq_true rfl⟩) ⟨fun a U g mk q => by obtain ⟨q0, q1, qP, qK, qD, qN⟩ := q; exact ⟨q0, q1, qP, va_K.moved (u := U) (U := U.calling g mk a) (Vm.Alike.refl U.vm) qK, qD, qN.same rfl⟩, fun U hU hW => ⟨rfl, by rw [hU], by rw [hU]; exact hPc, va_K.moved hW.alike hKc, hDc.weaken (fun _ _ _ _ => trivial), hN.warm hW⟩⟩ rfl rfl hl.1 rfl (lv_room (Nat.le_of_ble_eq_true rfl)) px_d254_4 ⟨(Nat.le_of_ble_eq_true rfl), (Nat.le_of_ble_eq_true rfl)⟩) hS (fun q _ h => hFc q h) hFc (fun u t H1 locs ht hvm hw hB hz1 hk1 hS => ?_)
  obtain ⟨hP1, hK1, hD1⟩ := hB
  rw [ht] at hP1
  have hK1 := va_K.moved hvm.symm hK1
  obtain ⟨hP, hD⟩ := va_join (wr := [(r0, .inl (c_r, n_r, .inl g_r))]) (w1 := []) hP hD [] [0] rfl rfl (by decide) (by decide) hk1 hFc hP1 hD1
  generalize H1 = H at hP hS ⊢
  have hP : va_P (dC, dI) vwCl [(r0, .inl (c_r, n_r, .inl g_r))] H := hP
  have hD : va_D A [(r0, .inl (c_r, n_r, .inl g_r))] := hD
  refine lv_iload_n hx hb px_d254_7 rfl (lv_at hl 1 rfl) ?_
  refine lv_istore (lv' := [(4, .int a1x), (0, .ref r0), (1, .int a1x), (2, .int a2x), (3, .int a3x)]) hx hb px_d254_8 hl (by decide) rfl (fun ls hl => ?_)
  obtain ⟨k9, hw⟩ := hw
  exact S10 k9 a1x a2x a3x a1x g_r H locs ls hP hD hS (lv_sub hl [1, 2, 3, 4, 0] rfl) hw

/-! java/util/Arrays.fill([JJ)V -/
def w282_L6 (n_r : Nat) (post : (Nat → Int64) → Prop) : Nat → Int64 → Int32 → Int32 → (Nat → Int64) → Prop
  | 0 => fun _ _ _ _ => False
  | k + 1 => fun x1 x3 x4 g_r => (x4 ≤ x3 → post g_r) ∧ (¬ x4 ≤ x3 → vp_in x3 n_r ∧ (∀ z1 : Int32, z1 = x3 + 1 → (w282_L6 n_r post k) x1 z1 x4 (vp_updL g_r (Int32.toNatClampNeg x3) x1)))
def w282_wp (n_r : Nat) (post : (Nat → Int64) → Prop) (a1x : Int64) (g_r : Nat → Int64) : Prop := ∀ z2 : Int32, z2 = nI n_r → ∃ j6, w282_L6 n_r post j6 a1x 0 z2 g_r
set_option maxHeartbeats 8000000 in
set_option maxRecDepth 100000 in
theorem w282_met (l : Launch) (dC : Nat → ClassId) (dI : Nat → Nat → Nat) (sz : Nat) (r0 : Nat) (n_r : Nat) (c_r : ClassId) (a1x : Int64) (g_r : Nat → Int64) (post : (Nat → Int64) → Prop) (hw : w282_wp n_r post a1x g_r) : Met l px_y282 px_s282 ({ frames := 0, cells := 0, slots := 0, locals := 0 }) (va_Pc [.ref r0, .long a1x] (fun U => U.heap.size = sz ∧ va_P (dC, dI) vwCl [(r0, .inl (c_r, n_r, .inr (.inl g_r)))] U.heap ∧ va_K (dC, dI) vwCl [(c_r, .long)] U ∧ va_D (fun _ => True) [(r0, .inl (c_r, n_r, .inr (.inl g_r)))] ∧ px_N U)) (va_Qv (fun (u : (Nat → Int64)) => post u) (fun (u : (Nat → Int64)) (t : State) => va_P (dC, dI) vwCl [(r0, .inl (c_r, n_r, .inr (.inl u)))] t.heap ∧ va_K (dC, dI) vwCl [(c_r, .long)] t ∧ va_D (va_A [(r0, .inl (c_r, n_r, .inr (.inl g_r)))] sz) [(r0, .inl (c_r, n_r, .inr (.inl u)))]) (va_A [(r0, .inl (c_r, n_r, .inr (.inl g_r)))] sz)) 0 0 (va_A [(r0, .inl (c_r, n_r, .inr (.inl g_r)))] sz) := by
  refine Met.ofW (cc := prog_33_method_101_code) (maxL := 5) (ret := none) (by decide) rfl ?_
  intro p e s m args below meth c s₁ B hml hv
  obtain ⟨rfl, hsz, hP, hK, hD0, hN⟩ := hv
  have hx := B.exec
  have hb := B.bytes
  have hr := B.returns
  have htw : ∀ w ∈ px_all, w.before _ s = true := fun w h => atoms_spec (ws := px_s282) B.pre w (List.mem_cons_of_mem _ h)
  have hown : s.vm.findClass "java/util/Arrays" = some m.cls := findClass_of_methodNamed B.named
  have hlocks := B.notSynchronized
  subst hsz
  have hD := hD0.self (sz := s.heap.size)
  generalize hAe : va_A [(r0, .inl (c_r, n_r, .inr (.inl g_r)))] s.heap.size = A at hD ⊢
  have hA : ∀ q : Nat, s.heap.size ≤ q → A q := fun q h => by rw [← hAe]; exact Or.inr h
  have hS : va_S A s.heap s.heap [] := va_S.rf
  have hP : va_P (dC, dI) vwCl [(r0, .inl (c_r, n_r, .inr (.inl g_r)))] s.heap := hP
  have hl := lv_entry ([.ref r0, .long a1x]) (n := 5) (Nat.le_of_ble_eq_true rfl)
  rw [lg_entry_eq]
  generalize (lg_sl ([.ref r0, .long a1x]) ++ List.replicate (5 - (lg_sl ([.ref r0, .long a1x])).length) Slot.unset).toArray = ls at hl ⊢
  have hl : lv_has ls 5 [(0, .ref r0), (1, .long a1x)] := hl
  generalize hQ : MQ _ _ _ _ _ _ _ = Q
  have S6 : ∀ (k6 : Nat) (x1 : Int64) (x3 : Int32) (x4 : Int32) (g_r : Nat → Int64) (H : Heap) (locs : List Loc) (ls : Array Slot), va_P (dC, dI) vwCl [(r0, .inl (c_r, n_r, .inr (.inl g_r)))] H → va_D A [(r0, .inl (c_r, n_r, .inr (.inl g_r)))] → va_S A s.heap H locs → lv_has ls 5 [(0, .ref r0), (1, .long x1), (3, .int x3), (4, .int x4)] → w282_L6 n_r post k6 x1 x3 x4 g_r → W p l e (headSpec px_s282 ({ frames := 0, cells := 0, slots := 0, locals := 0 })).room s m ([.ref r0, .long a1x]).toArray below meth c H locs 0 0 Q (F0 m 6 ls []) := by
    intro k6
    induction k6 with
    | zero => intro x1 x3 x4 g_r H locs ls hP hD hS hl hw; exact False.elim hw
    | succ k6 ih6 =>
      intro x1 x3 x4 g_r H locs ls hP hD hS hl hw
      unfold w282_L6 at hw
      refine lv_iload_n hx hb px_d282_6 rfl (lv_at hl 2 rfl) ?_
      refine lv_iload hx hb px_d282_7 (lv_at hl 3 rfl) ?_
      refine lv_icmp_ge (tgt := 22) hx hb px_d282_9 (by decide) (fun c9 => ?_) (fun c9 => ?_)
      · have hw := hw.1 c9
        rw [← hQ]
        exact W.vret hx hb hr (fun t ht hW => ⟨⟨g_r, rfl, hw, by rw [ht]; exact hP, va_K.moved hW.alike hK, hD⟩, hS.F ht⟩) hS.2.2 px_d282_22
      · have hw := hw.2 c9
        refine lv_aload_n hx hb px_d282_12 rfl (lv_at hl 0 rfl) ?_
        refine lv_iload_n hx hb px_d282_13 rfl (lv_at hl 2 rfl) ?_
        refine lv_lload_n hx hb px_d282_14 rfl (lv_at hl 1 rfl) ?_
        obtain ⟨hi15, hw⟩ := hw
        refine va_last hx hb hK hP hD hS 0 0 rfl rfl hi15 px_d282_15 (fun H locs hP hD hS => ?_)
        have hP : va_P (dC, dI) vwCl [(r0, .inl (c_r, n_r, .inr (.inl (vp_updL g_r (Int32.toNatClampNeg x3) x1))))] H := hP
        have hD : va_D A [(r0, .inl (c_r, n_r, .inr (.inl (vp_updL g_r (Int32.toNatClampNeg x3) x1))))] := hD
        obtain ⟨z1, ez1⟩ : ∃ y : Int32, y = x3 + 1 := ⟨_, rfl⟩
        have hw := hw z1 ez1
        refine lv_iinc (v := z1) (lv' := [(3, .int z1), (0, .ref r0), (1, .long x1), (4, .int x4)]) hx hb px_d282_16 hl (k := 2) rfl (by rw [ez1]; rfl) (by decide) rfl (fun ls hl => ?_)
        refine lv_goto (tgt := 6) hx hb px_d282_19 (by decide) ?_
        exact ih6 x1 z1 x4 (vp_updL g_r (Int32.toNatClampNeg x3) x1) H locs ls hP hD hS (lv_sub hl [1, 2, 0, 3] rfl) hw
  unfold w282_wp at hw
  have hS0 := hS
  obtain ⟨H, hH9⟩ : ∃ z, z = s.heap := ⟨_, rfl⟩
  have hP : va_P (dC, dI) vwCl [(r0, .inl (c_r, n_r, .inr (.inl g_r)))] H := by rw [hH9]; exact hP
  obtain ⟨locs, hlo9⟩ : ∃ z : List Loc, z = [] := ⟨_, rfl⟩
  have hS : va_S A s.heap H locs := by rw [hH9, hlo9]; exact hS
  suffices hG : W p l e (headSpec px_s282 ({ frames := 0, cells := 0, slots := 0, locals := 0 })).room s m ([.ref r0, .long a1x]).toArray below meth c H locs 0 0 Q (F0 m 0 ls []) by rw [hH9, hlo9] at hG; exact hG
  refine lv_iconst (v := 0) hx hb px_d282_0 (by decide) ?_
  refine lv_istore_n (lv' := [(3, .int 0), (0, .ref r0), (1, .long a1x)]) hx hb px_d282_1 rfl hl (by decide) rfl (fun ls hl => ?_)
  refine lv_aload_n hx hb px_d282_2 rfl (lv_at hl 1 rfl) ?_
  refine va_alen (v := nI n_r) hx hb hK hP 0 0 rfl rfl rfl px_d282_3 ?_
  refine lv_topi (fun z2 ez2 => ?_)
  have hw := hw z2 ez2
  refine lv_istore (lv' := [(4, .int z2), (3, .int 0), (0, .ref r0), (1, .long a1x)]) hx hb px_d282_4 hl (by decide) rfl (fun ls hl => ?_)
  obtain ⟨k9, hw⟩ := hw
  exact S6 k9 a1x 0 z2 g_r H locs ls hP hD hS (lv_sub hl [2, 3, 1, 0] rfl) hw

