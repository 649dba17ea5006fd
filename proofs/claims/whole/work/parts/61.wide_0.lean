/-! MatroidDesk$Wide.takeAmount(JJJ)Z -/
def w317_L80 (post : Int32 → Int64 → Int64 → Int64 → Prop) (x1 : Int64) (x3 : Int64) (x5 : Int64) (x7 : Int32) (x8 : Int64) (x10 : Int64) (y0 : Int64) (w0_low : Int64) (w0_middle : Int64) (w0_high : Int64) : Prop := ∀ z1 : Int64, z1 = y0 + ((x10 : Int64) >>> ((48 : Int32).toInt64 &&& 63)) → narrow .boolean (.int x7) = .int x7 ∧ post x7 w0_low w0_middle z1
def w317_L38 (post : Int32 → Int64 → Int64 → Int64 → Prop) (x1 : Int64) (x3 : Int64) (x5 : Int64) (x7 : Int32) (x8 : Int64) (y0 : Int64) (w0_low : Int64) (w0_middle : Int64) (w0_high : Int64) : Prop := ∀ z2 : Int64, z2 = y0 + ((x8 : Int64) >>> ((48 : Int32).toInt64 &&& 63)) → ∀ z3 : Int64, z3 = x8 &&& 281474976710655 → ∀ z4 : Int64, z4 = z2 &&& 281474976710655 → (x7 = 0 → w317_L80 post x1 x3 x5 x7 x8 z2 x5 z3 z4 w0_high) ∧ (¬ x7 = 0 → w317_L80 post x1 x3 x5 x7 x8 z2 (-x5) z3 z4 w0_high)
def w317_L25 (post : Int32 → Int64 → Int64 → Int64 → Prop) (x1 : Int64) (x3 : Int64) (x5 : Int64) (x7 : Int32) (y0 : Int64) (w0_low : Int64) (w0_middle : Int64) (w0_high : Int64) : Prop := (x7 = 0 → w317_L38 post x1 x3 x5 x7 y0 x3 w0_low w0_middle w0_high) ∧ (¬ x7 = 0 → w317_L38 post x1 x3 x5 x7 y0 (-x3) w0_low w0_middle w0_high)
def w317_L12 (post : Int32 → Int64 → Int64 → Int64 → Prop) (x1 : Int64) (x3 : Int64) (x5 : Int64) (y0 : Int32) (w0_low : Int64) (w0_middle : Int64) (w0_high : Int64) : Prop := (y0 = 0 → w317_L25 post x1 x3 x5 y0 x1 w0_low w0_middle w0_high) ∧ (¬ y0 = 0 → w317_L25 post x1 x3 x5 y0 (-x1) w0_low w0_middle w0_high)
def w317_wp (post : Int32 → Int64 → Int64 → Int64 → Prop) (a0x : Int64) (a1x : Int64) (a2x : Int64) (w0_low : Int64) (w0_middle : Int64) (w0_high : Int64) : Prop := (0 ≤ (lg_cmp a2x 0) → w317_L12 post a0x a1x a2x 0 w0_low w0_middle w0_high) ∧ (¬ 0 ≤ (lg_cmp a2x 0) → w317_L12 post a0x a1x a2x 1 w0_low w0_middle w0_high)
set_option maxHeartbeats 8000000 in
set_option maxRecDepth 100000 in
theorem w317_met (l : Launch) (dC : Nat → ClassId) (dI : Nat → Nat → Nat) (sz : Nat) (h0 : Nat) (a0x : Int64) (a1x : Int64) (a2x : Int64) (w0_low : Int64) (w0_middle : Int64) (w0_high : Int64) (post : Int32 → Int64 → Int64 → Int64 → Prop) (hw : w317_wp post a0x a1x a2x w0_low w0_middle w0_high) : Met l px_y317 px_s317 ({ frames := 0, cells := 0, slots := 0, locals := 0 }) (va_Pc [.ref h0, .long a0x, .long a1x, .long a2x] (fun U => U.heap.size = sz ∧ va_P (dC, dI) vwCl [(h0, .inr (3, [.long w0_low, .long w0_middle, .long w0_high]))] U.heap ∧ va_K (dC, dI) vwCl [] U ∧ va_D (fun _ => True) [(h0, .inr (3, [.long w0_low, .long w0_middle, .long w0_high]))] ∧ px_N U)) (va_Qi (fun (r : Int32) (u : Int64 × Int64 × Int64) => post r u.1 u.2.1 u.2.2) (fun (u : Int64 × Int64 × Int64) (t : State) => va_P (dC, dI) vwCl [(h0, .inr (3, [.long u.1, .long u.2.1, .long u.2.2]))] t.heap ∧ va_K (dC, dI) vwCl [] t ∧ va_D (va_A [(h0, .inr (3, [.long w0_low, .long w0_middle, .long w0_high]))] sz) [(h0, .inr (3, [.long u.1, .long u.2.1, .long u.2.2]))]) (va_A [(h0, .inr (3, [.long w0_low, .long w0_middle, .long w0_high]))] sz)) 0 0 (va_A [(h0, .inr (3, [.long w0_low, .long w0_middle, .long w0_high]))] sz) := by
  refine Met.ofW (cc := prog_12_method_2_code) (maxL := 12) (ret := (some .boolean)) (by decide) rfl ?_
  intro p e s m args below meth c s₁ B hml hv
  obtain ⟨rfl, hsz, hP, hK, hD0, hN⟩ := hv
  have hx := B.exec
  have hb := B.bytes
  have hr := B.returns
  have htw : ∀ w ∈ px_all, w.before _ s = true := fun w h => atoms_spec (ws := px_s317) B.pre w (List.mem_cons_of_mem _ h)
  have hown : s.vm.findClass "MatroidDesk$Wide" = some m.cls := findClass_of_methodNamed B.named
  have hlocks := B.notSynchronized
  subst hsz
  have hD := hD0.self (sz := s.heap.size)
  generalize hAe : va_A [(h0, .inr (3, [.long w0_low, .long w0_middle, .long w0_high]))] s.heap.size = A at hD ⊢
  have hA : ∀ q : Nat, s.heap.size ≤ q → A q := fun q h => by rw [← hAe]; exact Or.inr h
  have hS : va_S A s.heap s.heap [] := va_S.rf
  have hP : va_P (dC, dI) vwCl [(h0, .inr (3, [.long w0_low, .long w0_middle, .long w0_high]))] s.heap := hP
  have hl := lv_entry ([.ref h0, .long a0x, .long a1x, .long a2x]) (n := 12) (Nat.le_of_ble_eq_true rfl)
  rw [lg_entry_eq]
  generalize (lg_sl ([.ref h0, .long a0x, .long a1x, .long a2x]) ++ List.replicate (12 - (lg_sl ([.ref h0, .long a0x, .long a1x, .long a2x])).length) Slot.unset).toArray = ls at hl ⊢
  have hl : lv_has ls 12 [(0, .ref h0), (1, .long a0x), (3, .long a1x), (5, .long a2x)] := hl
  generalize hQ : MQ _ _ _ _ _ _ _ = Q
  have S80 : ∀ (x1 : Int64) (x3 : Int64) (x5 : Int64) (x7 : Int32) (x8 : Int64) (x10 : Int64) (y0 : Int64) (w0_low : Int64) (w0_middle : Int64) (w0_high : Int64) (H : Heap) (locs : List Loc) (ls : Array Slot), va_P (dC, dI) vwCl [(h0, .inr (3, [.long w0_low, .long w0_middle, .long w0_high]))] H → va_D A [(h0, .inr (3, [.long w0_low, .long w0_middle, .long w0_high]))] → va_S A s.heap H locs → lv_has ls 12 [(0, .ref h0), (1, .long x1), (3, .long x3), (5, .long x5), (7, .int x7), (8, .long x8), (10, .long x10)] → w317_L80 post x1 x3 x5 x7 x8 x10 y0 w0_low w0_middle w0_high → W p l e (headSpec px_s317 ({ frames := 0, cells := 0, slots := 0, locals := 0 })).room s m ([.ref h0, .long a0x, .long a1x, .long a2x]).toArray below meth c H locs 0 0 Q (F0 m 80 ls [.long y0, .ref h0]) := by
    intro x1 x3 x5 x7 x8 x10 y0 w0_low w0_middle w0_high H locs ls hP hD hS hl hw
    unfold w317_L80 at hw
    refine lv_lload hx hb px_d317_80 (lv_at hl 6 rfl) ?_
    refine lv_bipush (v := 48) hx hb px_d317_82 (by decide) ?_
    refine lv_lshr (v := (x10 : Int64) >>> ((48 : Int32).toInt64 &&& 63)) hx hb px_d317_84 rfl ?_
    refine lv_ladd hx hb px_d317_85 ?_
    refine lv_topl (fun z1 ez1 => ?_)
    have hw := hw z1 ez1
    refine va_put (D := (dC, dI)) (ci := 3) (v := .long z1) (ty := .long) (C := "MatroidDesk$Wide") (T := px_T3) (N := 3) hx hb htw px_in3 px_ty3 px_tyok3 px_nm3 hown hK hP hD hS 0 rfl rfl 2 (by decide) (htw _ px_w1595) (fun _ h9 => h9) rfl (by decide +kernel) rfl rfl (Nat.le_of_ble_eq_true rfl) px_d317_86 (fun H locs hP hD hS => ?_)
    have hP : va_P (dC, dI) vwCl [(h0, .inr (3, [.long w0_low, .long w0_middle, .long z1]))] H := hP
    have hD : va_D A [(h0, .inr (3, [.long w0_low, .long w0_middle, .long z1]))] := hD
    refine lv_iload hx hb px_d317_89 (lv_at hl 4 rfl) ?_
    obtain ⟨hz9, hw⟩ := hw
    rw [← hQ]
    exact W.zret (v := x7) hx hb hr hz9 (fun t ht hW => ⟨⟨x7, (w0_low, w0_middle, z1), rfl, hw, by rw [ht]; exact hP, va_K.moved hW.alike hK, hD⟩, hS.F ht⟩) hS.2.2 px_d317_91
  have S38 : ∀ (x1 : Int64) (x3 : Int64) (x5 : Int64) (x7 : Int32) (x8 : Int64) (y0 : Int64) (w0_low : Int64) (w0_middle : Int64) (w0_high : Int64) (H : Heap) (locs : List Loc) (ls : Array Slot), va_P (dC, dI) vwCl [(h0, .inr (3, [.long w0_low, .long w0_middle, .long w0_high]))] H → va_D A [(h0, .inr (3, [.long w0_low, .long w0_middle, .long w0_high]))] → va_S A s.heap H locs → lv_has ls 12 [(0, .ref h0), (1, .long x1), (3, .long x3), (5, .long x5), (7, .int x7), (8, .long x8)] → w317_L38 post x1 x3 x5 x7 x8 y0 w0_low w0_middle w0_high → W p l e (headSpec px_s317 ({ frames := 0, cells := 0, slots := 0, locals := 0 })).room s m ([.ref h0, .long a0x, .long a1x, .long a2x]).toArray below meth c H locs 0 0 Q (F0 m 38 ls [.long y0]) := by
    intro x1 x3 x5 x7 x8 y0 w0_low w0_middle w0_high H locs ls hP hD hS hl hw
    unfold w317_L38 at hw
    refine lv_lload hx hb px_d317_38 (lv_at hl 5 rfl) ?_
    refine lv_bipush (v := 48) hx hb px_d317_40 (by decide) ?_
    refine lv_lshr (v := (x8 : Int64) >>> ((48 : Int32).toInt64 &&& 63)) hx hb px_d317_42 rfl ?_
    refine lv_ladd hx hb px_d317_43 ?_
    refine lv_topl (fun z2 ez2 => ?_)
    have hw := hw z2 ez2
    refine lv_lstore (lv' := [(10, .long z2), (0, .ref h0), (1, .long x1), (3, .long x3), (5, .long x5), (7, .int x7), (8, .long x8)]) hx hb px_d317_44 hl (by decide) rfl (fun ls hl => ?_)
    refine lv_aload_n hx hb px_d317_46 rfl (lv_at hl 1 rfl) ?_
    refine lv_lload hx hb px_d317_47 (lv_at hl 6 rfl) ?_
    refine lv_ldc2 hx hb (own := "MatroidDesk$Wide") (index := 9) (v := 281474976710655) hown (htw _ px_w1592) px_d317_49 ?_
    refine lv_land hx hb px_d317_52 ?_
    refine lv_topl (fun z3 ez3 => ?_)
    have hw := hw z3 ez3
    refine va_put (D := (dC, dI)) (ci := 3) (v := .long z3) (ty := .long) (C := "MatroidDesk$Wide") (T := px_T3) (N := 3) hx hb htw px_in3 px_ty3 px_tyok3 px_nm3 hown hK hP hD hS 0 rfl rfl 0 (by decide) (htw _ px_w1593) (fun _ h9 => h9) rfl (by decide +kernel) rfl rfl (Nat.le_of_ble_eq_true rfl) px_d317_53 (fun H locs hP hD hS => ?_)
    have hP : va_P (dC, dI) vwCl [(h0, .inr (3, [.long z3, .long w0_middle, .long w0_high]))] H := hP
    have hD : va_D A [(h0, .inr (3, [.long z3, .long w0_middle, .long w0_high]))] := hD
    refine lv_aload_n hx hb px_d317_56 rfl (lv_at hl 1 rfl) ?_
    refine lv_lload hx hb px_d317_57 (lv_at hl 0 rfl) ?_
    refine lv_ldc2 hx hb (own := "MatroidDesk$Wide") (index := 9) (v := 281474976710655) hown (htw _ px_w1592) px_d317_59 ?_
    refine lv_land hx hb px_d317_62 ?_
    refine lv_topl (fun z4 ez4 => ?_)
    have hw := hw z4 ez4
    refine va_put (D := (dC, dI)) (ci := 3) (v := .long z4) (ty := .long) (C := "MatroidDesk$Wide") (T := px_T3) (N := 3) hx hb htw px_in3 px_ty3 px_tyok3 px_nm3 hown hK hP hD hS 0 rfl rfl 1 (by decide) (htw _ px_w1594) (fun _ h9 => h9) rfl (by decide +kernel) rfl rfl (Nat.le_of_ble_eq_true rfl) px_d317_63 (fun H locs hP hD hS => ?_)
    have hP : va_P (dC, dI) vwCl [(h0, .inr (3, [.long z3, .long z4, .long w0_high]))] H := hP
    have hD : va_D A [(h0, .inr (3, [.long z3, .long z4, .long w0_high]))] := hD
    refine lv_aload_n hx hb px_d317_66 rfl (lv_at hl 1 rfl) ?_
    refine lv_iload hx hb px_d317_67 (lv_at hl 5 rfl) ?_
    refine lv_if_eq (tgt := 78) hx hb px_d317_69 (by decide) (fun c69 => ?_) (fun c69 => ?_)
    · have hw := hw.1 c69
      refine lv_lload hx hb px_d317_78 (lv_at hl 4 rfl) ?_
      exact S80 x1 x3 x5 x7 x8 z2 x5 z3 z4 w0_high H locs ls hP hD hS (lv_sub hl [1, 2, 3, 4, 5, 6, 0] rfl) hw
    · have hw := hw.2 c69
      refine lv_lload hx hb px_d317_72 (lv_at hl 4 rfl) ?_
      refine lv_lneg hx hb px_d317_74 ?_
      refine lv_goto (tgt := 80) hx hb px_d317_75 (by decide) ?_
      exact S80 x1 x3 x5 x7 x8 z2 (-x5) z3 z4 w0_high H locs ls hP hD hS (lv_sub hl [1, 2, 3, 4, 5, 6, 0] rfl) hw
  have S25 : ∀ (x1 : Int64) (x3 : Int64) (x5 : Int64) (x7 : Int32) (y0 : Int64) (w0_low : Int64) (w0_middle : Int64) (w0_high : Int64) (H : Heap) (locs : List Loc) (ls : Array Slot), va_P (dC, dI) vwCl [(h0, .inr (3, [.long w0_low, .long w0_middle, .long w0_high]))] H → va_D A [(h0, .inr (3, [.long w0_low, .long w0_middle, .long w0_high]))] → va_S A s.heap H locs → lv_has ls 12 [(0, .ref h0), (1, .long x1), (3, .long x3), (5, .long x5), (7, .int x7)] → w317_L25 post x1 x3 x5 x7 y0 w0_low w0_middle w0_high → W p l e (headSpec px_s317 ({ frames := 0, cells := 0, slots := 0, locals := 0 })).room s m ([.ref h0, .long a0x, .long a1x, .long a2x]).toArray below meth c H locs 0 0 Q (F0 m 25 ls [.long y0]) := by
    intro x1 x3 x5 x7 y0 w0_low w0_middle w0_high H locs ls hP hD hS hl hw
    unfold w317_L25 at hw
    refine lv_lstore (lv' := [(8, .long y0), (0, .ref h0), (1, .long x1), (3, .long x3), (5, .long x5), (7, .int x7)]) hx hb px_d317_25 hl (by decide) rfl (fun ls hl => ?_)
    refine lv_iload hx hb px_d317_27 (lv_at hl 5 rfl) ?_
    refine lv_if_eq (tgt := 37) hx hb px_d317_29 (by decide) (fun c29 => ?_) (fun c29 => ?_)
    · have hw := hw.1 c29
      refine lv_lload_n hx hb px_d317_37 rfl (lv_at hl 3 rfl) ?_
      exact S38 x1 x3 x5 x7 y0 x3 w0_low w0_middle w0_high H locs ls hP hD hS (lv_sub hl [1, 2, 3, 4, 5, 0] rfl) hw
    · have hw := hw.2 c29
      refine lv_lload_n hx hb px_d317_32 rfl (lv_at hl 3 rfl) ?_
      refine lv_lneg hx hb px_d317_33 ?_
      refine lv_goto (tgt := 38) hx hb px_d317_34 (by decide) ?_
      exact S38 x1 x3 x5 x7 y0 (-x3) w0_low w0_middle w0_high H locs ls hP hD hS (lv_sub hl [1, 2, 3, 4, 5, 0] rfl) hw
  have S12 : ∀ (x1 : Int64) (x3 : Int64) (x5 : Int64) (y0 : Int32) (w0_low : Int64) (w0_middle : Int64) (w0_high : Int64) (H : Heap) (locs : List Loc) (ls : Array Slot), va_P (dC, dI) vwCl [(h0, .inr (3, [.long w0_low, .long w0_middle, .long w0_high]))] H → va_D A [(h0, .inr (3, [.long w0_low, .long w0_middle, .long w0_high]))] → va_S A s.heap H locs → lv_has ls 12 [(0, .ref h0), (1, .long x1), (3, .long x3), (5, .long x5)] → w317_L12 post x1 x3 x5 y0 w0_low w0_middle w0_high → W p l e (headSpec px_s317 ({ frames := 0, cells := 0, slots := 0, locals := 0 })).room s m ([.ref h0, .long a0x, .long a1x, .long a2x]).toArray below meth c H locs 0 0 Q (F0 m 12 ls [.int y0]) := by
    intro x1 x3 x5 y0 w0_low w0_middle w0_high H locs ls hP hD hS hl hw
    unfold w317_L12 at hw
    refine lv_istore (lv' := [(7, .int y0), (0, .ref h0), (1, .long x1), (3, .long x3), (5, .long x5)]) hx hb px_d317_12 hl (by decide) rfl (fun ls hl => ?_)
    refine lv_iload hx hb px_d317_14 (lv_at hl 0 rfl) ?_
    refine lv_if_eq (tgt := 24) hx hb px_d317_16 (by decide) (fun c16 => ?_) (fun c16 => ?_)
    · have hw := hw.1 c16
      refine lv_lload_n hx hb px_d317_24 rfl (lv_at hl 2 rfl) ?_
      exact S25 x1 x3 x5 y0 x1 w0_low w0_middle w0_high H locs ls hP hD hS (lv_sub hl [1, 2, 3, 4, 0] rfl) hw
    · have hw := hw.2 c16
      refine lv_lload_n hx hb px_d317_19 rfl (lv_at hl 2 rfl) ?_
      refine lv_lneg hx hb px_d317_20 ?_
      refine lv_goto (tgt := 25) hx hb px_d317_21 (by decide) ?_
      exact S25 x1 x3 x5 y0 (-x1) w0_low w0_middle w0_high H locs ls hP hD hS (lv_sub hl [1, 2, 3, 4, 0] rfl) hw
  unfold w317_wp at hw
  have hS0 := hS
  obtain ⟨H, hH9⟩ : ∃ z, z = s.heap := ⟨_, rfl⟩
  have hP : va_P (dC, dI) vwCl [(h0, .inr (3, [.long w0_low, .long w0_middle, .long w0_high]))] H := by rw [hH9]; exact hP
  obtain ⟨locs, hlo9⟩ : ∃ z : List Loc, z = [] := ⟨_, rfl⟩
  have hS : va_S A s.heap H locs := by rw [hH9, hlo9]; exact hS
  suffices hG : W p l e (headSpec px_s317 ({ frames := 0, cells := 0, slots := 0, locals := 0 })).room s m ([.ref h0, .long a0x, .long a1x, .long a2x]).toArray below meth c H locs 0 0 Q (F0 m 0 ls []) by rw [hH9, hlo9] at hG; exact hG
  refine lv_lload hx hb px_d317_0 (lv_at hl 3 rfl) ?_
  refine lv_lconst (v := 0) hx hb px_d317_2 (by decide) ?_
  refine W.lcmp hx hb px_d317_3 ?_
  refine lv_if_ge (tgt := 11) hx hb px_d317_4 (by decide) (fun c4 => ?_) (fun c4 => ?_)
  · have hw := hw.1 c4
    refine lv_iconst (v := 0) hx hb px_d317_11 (by decide) ?_
    exact S12 a0x a1x a2x 0 w0_low w0_middle w0_high H locs ls hP hD hS (lv_sub hl [0, 1, 2, 3] rfl) hw
  · have hw := hw.2 c4
    refine lv_iconst (v := 1) hx hb px_d317_7 (by decide) ?_
    refine lv_goto (tgt := 12) hx hb px_d317_8 (by decide) ?_
    exact S12 a0x a1x a2x 1 w0_low w0_middle w0_high H locs ls hP hD hS (lv_sub hl [0, 1, 2, 3] rfl) hw

/-! MatroidDesk$Wide.isZero()Z -/
def w318_L24 (post : Int32 → Int64 → Int64 → Int64 → Prop) (y0 : Int32) (w0_low : Int64) (w0_middle : Int64) (w0_high : Int64) : Prop := narrow .boolean (.int y0) = .int y0 ∧ post y0 w0_low w0_middle w0_high
def w318_wp (post : Int32 → Int64 → Int64 → Int64 → Prop) (w0_low : Int64) (w0_middle : Int64) (w0_high : Int64) : Prop := (¬ (lg_cmp ((w0_low ||| w0_middle) ||| w0_high) 0) = 0 → w318_L24 post 0 w0_low w0_middle w0_high) ∧ ((lg_cmp ((w0_low ||| w0_middle) ||| w0_high) 0) = 0 → w318_L24 post 1 w0_low w0_middle w0_high)
set_option maxHeartbeats 8000000 in
set_option maxRecDepth 100000 in
theorem w318_met (l : Launch) (dC : Nat → ClassId) (dI : Nat → Nat → Nat) (sz : Nat) (h0 : Nat) (w0_low : Int64) (w0_middle : Int64) (w0_high : Int64) (post : Int32 → Int64 → Int64 → Int64 → Prop) (hw : w318_wp post w0_low w0_middle w0_high) : Met l px_y318 px_s318 ({ frames := 0, cells := 0, slots := 0, locals := 0 }) (va_Pc [.ref h0] (fun U => U.heap.size = sz ∧ va_P (dC, dI) vwCl [(h0, .inr (3, [.long w0_low, .long w0_middle, .long w0_high]))] U.heap ∧ va_K (dC, dI) vwCl [] U ∧ va_D (fun _ => True) [(h0, .inr (3, [.long w0_low, .long w0_middle, .long w0_high]))] ∧ px_N U)) (va_Qi (fun (r : Int32) (u : Int64 × Int64 × Int64) => post r u.1 u.2.1 u.2.2) (fun (u : Int64 × Int64 × Int64) (t : State) => va_P (dC, dI) vwCl [(h0, .inr (3, [.long u.1, .long u.2.1, .long u.2.2]))] t.heap ∧ va_K (dC, dI) vwCl [] t ∧ va_D (va_A [(h0, .inr (3, [.long w0_low, .long w0_middle, .long w0_high]))] sz) [(h0, .inr (3, [.long u.1, .long u.2.1, .long u.2.2]))]) (va_A [(h0, .inr (3, [.long w0_low, .long w0_middle, .long w0_high]))] sz)) 0 0 (va_A [(h0, .inr (3, [.long w0_low, .long w0_middle, .long w0_high]))] sz) := by
  refine Met.ofW (cc := prog_12_method_3_code) (maxL := 1) (ret := (some .boolean)) (by decide) rfl ?_
  intro p e s m args below meth c s₁ B hml hv
  obtain ⟨rfl, hsz, hP, hK, hD0, hN⟩ := hv
  have hx := B.exec
  have hb := B.bytes
  have hr := B.returns
  have htw : ∀ w ∈ px_all, w.before _ s = true := fun w h => atoms_spec (ws := px_s318) B.pre w (List.mem_cons_of_mem _ h)
  have hown : s.vm.findClass "MatroidDesk$Wide" = some m.cls := findClass_of_methodNamed B.named
  have hlocks := B.notSynchronized
  subst hsz
  have hD := hD0.self (sz := s.heap.size)
  generalize hAe : va_A [(h0, .inr (3, [.long w0_low, .long w0_middle, .long w0_high]))] s.heap.size = A at hD ⊢
  have hA : ∀ q : Nat, s.heap.size ≤ q → A q := fun q h => by rw [← hAe]; exact Or.inr h
  have hS : va_S A s.heap s.heap [] := va_S.rf
  have hP : va_P (dC, dI) vwCl [(h0, .inr (3, [.long w0_low, .long w0_middle, .long w0_high]))] s.heap := hP
  have hl := lv_entry ([.ref h0]) (n := 1) (Nat.le_of_ble_eq_true rfl)
  rw [lg_entry_eq]
  generalize (lg_sl ([.ref h0]) ++ List.replicate (1 - (lg_sl ([.ref h0])).length) Slot.unset).toArray = ls at hl ⊢
  have hl : lv_has ls 1 [(0, .ref h0)] := hl
  generalize hQ : MQ _ _ _ _ _ _ _ = Q
  have S24 : ∀ (y0 : Int32) (w0_low : Int64) (w0_middle : Int64) (w0_high : Int64) (H : Heap) (locs : List Loc) (ls : Array Slot), va_P (dC, dI) vwCl [(h0, .inr (3, [.long w0_low, .long w0_middle, .long w0_high]))] H → va_D A [(h0, .inr (3, [.long w0_low, .long w0_middle, .long w0_high]))] → va_S A s.heap H locs → lv_has ls 1 [(0, .ref h0)] → w318_L24 post y0 w0_low w0_middle w0_high → W p l e (headSpec px_s318 ({ frames := 0, cells := 0, slots := 0, locals := 0 })).room s m ([.ref h0]).toArray below meth c H locs 0 0 Q (F0 m 24 ls [.int y0]) := by
    intro y0 w0_low w0_middle w0_high H locs ls hP hD hS hl hw
    unfold w318_L24 at hw
    obtain ⟨hz9, hw⟩ := hw
    rw [← hQ]
    exact W.zret (v := y0) hx hb hr hz9 (fun t ht hW => ⟨⟨y0, (w0_low, w0_middle, w0_high), rfl, hw, by rw [ht]; exact hP, va_K.moved hW.alike hK, hD⟩, hS.F ht⟩) hS.2.2 px_d318_24
  unfold w318_wp at hw
  have hS0 := hS
  obtain ⟨H, hH9⟩ : ∃ z, z = s.heap := ⟨_, rfl⟩
  have hP : va_P (dC, dI) vwCl [(h0, .inr (3, [.long w0_low, .long w0_middle, .long w0_high]))] H := by rw [hH9]; exact hP
  obtain ⟨locs, hlo9⟩ : ∃ z : List Loc, z = [] := ⟨_, rfl⟩
  have hS : va_S A s.heap H locs := by rw [hH9, hlo9]; exact hS
  suffices hG : W p l e (headSpec px_s318 ({ frames := 0, cells := 0, slots := 0, locals := 0 })).room s m ([.ref h0]).toArray below meth c H locs 0 0 Q (F0 m 0 ls []) by rw [hH9, hlo9] at hG; exact hG
  refine lv_aload_n hx hb px_d318_0 rfl (lv_at hl 0 rfl) ?_
  refine va_get (D := (dC, dI)) (ci := 3) (v := .long w0_low) (C := "MatroidDesk$Wide") (T := px_T3) (N := 3) hx hb htw px_in3 hown hK hP 0 rfl rfl 0 (by decide) (htw _ px_w1593) (fun _ h9 => h9) rfl px_d318_1 ?_
  refine lv_aload_n hx hb px_d318_4 rfl (lv_at hl 0 rfl) ?_
  refine va_get (D := (dC, dI)) (ci := 3) (v := .long w0_middle) (C := "MatroidDesk$Wide") (T := px_T3) (N := 3) hx hb htw px_in3 hown hK hP 0 rfl rfl 1 (by decide) (htw _ px_w1594) (fun _ h9 => h9) rfl px_d318_5 ?_
  refine lv_lor hx hb px_d318_8 ?_
  refine lv_aload_n hx hb px_d318_9 rfl (lv_at hl 0 rfl) ?_
  refine va_get (D := (dC, dI)) (ci := 3) (v := .long w0_high) (C := "MatroidDesk$Wide") (T := px_T3) (N := 3) hx hb htw px_in3 hown hK hP 0 rfl rfl 2 (by decide) (htw _ px_w1595) (fun _ h9 => h9) rfl px_d318_10 ?_
  refine lv_lor hx hb px_d318_13 ?_
  refine lv_lconst (v := 0) hx hb px_d318_14 (by decide) ?_
  refine W.lcmp hx hb px_d318_15 ?_
  refine lv_if_ne (tgt := 23) hx hb px_d318_16 (by decide) (fun c16 => ?_) (fun c16 => ?_)
  · have hw := hw.1 c16
    refine lv_iconst (v := 0) hx hb px_d318_23 (by decide) ?_
    exact S24 0 w0_low w0_middle w0_high H locs ls hP hD hS (lv_sub hl [0] rfl) hw
  · have hw := hw.2 c16
    refine lv_iconst (v := 1) hx hb px_d318_19 (by decide) ?_
    refine lv_goto (tgt := 24) hx hb px_d318_20 (by decide) ?_
    exact S24 1 w0_low w0_middle w0_high H locs ls hP hD hS (lv_sub hl [0] rfl) hw

/-! MatroidDesk$Wide.isOne()Z -/
def w333_L28 (post : Int32 → Int64 → Int64 → Int64 → Prop) (y0 : Int32) (w0_low : Int64) (w0_middle : Int64) (w0_high : Int64) : Prop := narrow .boolean (.int y0) = .int y0 ∧ post y0 w0_low w0_middle w0_high
def w333_L27 (post : Int32 → Int64 → Int64 → Int64 → Prop) (w0_low : Int64) (w0_middle : Int64) (w0_high : Int64) : Prop := w333_L28 post 0 w0_low w0_middle w0_high
def w333_wp (post : Int32 → Int64 → Int64 → Int64 → Prop) (w0_low : Int64) (w0_middle : Int64) (w0_high : Int64) : Prop := (¬ (lg_cmp w0_low 1) = 0 → w333_L27 post w0_low w0_middle w0_high) ∧ ((lg_cmp w0_low 1) = 0 → (¬ (lg_cmp (w0_middle ||| w0_high) 0) = 0 → w333_L27 post w0_low w0_middle w0_high) ∧ ((lg_cmp (w0_middle ||| w0_high) 0) = 0 → w333_L28 post 1 w0_low w0_middle w0_high))
set_option maxHeartbeats 8000000 in
set_option maxRecDepth 100000 in
theorem w333_met (l : Launch) (dC : Nat → ClassId) (dI : Nat → Nat → Nat) (sz : Nat) (h0 : Nat) (w0_low : Int64) (w0_middle : Int64) (w0_high : Int64) (post : Int32 → Int64 → Int64 → Int64 → Prop) (hw : w333_wp post w0_low w0_middle w0_high) : Met l px_y333 px_s333 ({ frames := 0, cells := 0, slots := 0, locals := 0 }) (va_Pc [.ref h0] (fun U => U.heap.size = sz ∧ va_P (dC, dI) vwCl [(h0, .inr (3, [.long w0_low, .long w0_middle, .long w0_high]))] U.heap ∧ va_K (dC, dI) vwCl [] U ∧ va_D (fun _ => True) [(h0, .inr (3, [.long w0_low, .long w0_middle, .long w0_high]))] ∧ px_N U)) (va_Qi (fun (r : Int32) (u : Int64 × Int64 × Int64) => post r u.1 u.2.1 u.2.2) (fun (u : Int64 × Int64 × Int64) (t : State) => va_P (dC, dI) vwCl [(h0, .inr (3, [.long u.1, .long u.2.1, .long u.2.2]))] t.heap ∧ va_K (dC, dI) vwCl [] t ∧ va_D (va_A [(h0, .inr (3, [.long w0_low, .long w0_middle, .long w0_high]))] sz) [(h0, .inr (3, [.long u.1, .long u.2.1, .long u.2.2]))]) (va_A [(h0, .inr (3, [.long w0_low, .long w0_middle, .long w0_high]))] sz)) 0 0 (va_A [(h0, .inr (3, [.long w0_low, .long w0_middle, .long w0_high]))] sz) := by
  refine Met.ofW (cc := prog_12_method_4_code) (maxL := 1) (ret := (some .boolean)) (by decide) rfl ?_
  intro p e s m args below meth c s₁ B hml hv
  obtain ⟨rfl, hsz, hP, hK, hD0, hN⟩ := hv
  have hx := B.exec
  have hb := B.bytes
  have hr := B.returns
  have htw : ∀ w ∈ px_all, w.before _ s = true := fun w h => atoms_spec (ws := px_s333) B.pre w (List.mem_cons_of_mem _ h)
  have hown : s.vm.findClass "MatroidDesk$Wide" = some m.cls := findClass_of_methodNamed B.named
  have hlocks := B.notSynchronized
  subst hsz
  have hD := hD0.self (sz := s.heap.size)
  generalize hAe : va_A [(h0, .inr (3, [.long w0_low, .long w0_middle, .long w0_high]))] s.heap.size = A at hD ⊢
  have hA : ∀ q : Nat, s.heap.size ≤ q → A q := fun q h => by rw [← hAe]; exact Or.inr h
  have hS : va_S A s.heap s.heap [] := va_S.rf
  have hP : va_P (dC, dI) vwCl [(h0, .inr (3, [.long w0_low, .long w0_middle, .long w0_high]))] s.heap := hP
  have hl := lv_entry ([.ref h0]) (n := 1) (Nat.le_of_ble_eq_true rfl)
  rw [lg_entry_eq]
  generalize (lg_sl ([.ref h0]) ++ List.replicate (1 - (lg_sl ([.ref h0])).length) Slot.unset).toArray = ls at hl ⊢
  have hl : lv_has ls 1 [(0, .ref h0)] := hl
  generalize hQ : MQ _ _ _ _ _ _ _ = Q
  have S28 : ∀ (y0 : Int32) (w0_low : Int64) (w0_middle : Int64) (w0_high : Int64) (H : Heap) (locs : List Loc) (ls : Array Slot), va_P (dC, dI) vwCl [(h0, .inr (3, [.long w0_low, .long w0_middle, .long w0_high]))] H → va_D A [(h0, .inr (3, [.long w0_low, .long w0_middle, .long w0_high]))] → va_S A s.heap H locs → lv_has ls 1 [(0, .ref h0)] → w333_L28 post y0 w0_low w0_middle w0_high → W p l e (headSpec px_s333 ({ frames := 0, cells := 0, slots := 0, locals := 0 })).room s m ([.ref h0]).toArray below meth c H locs 0 0 Q (F0 m 28 ls [.int y0]) := by
    intro y0 w0_low w0_middle w0_high H locs ls hP hD hS hl hw
    unfold w333_L28 at hw
    obtain ⟨hz9, hw⟩ := hw
    rw [← hQ]
    exact W.zret (v := y0) hx hb hr hz9 (fun t ht hW => ⟨⟨y0, (w0_low, w0_middle, w0_high), rfl, hw, by rw [ht]; exact hP, va_K.moved hW.alike hK, hD⟩, hS.F ht⟩) hS.2.2 px_d333_28
  have S27 : ∀ (w0_low : Int64) (w0_middle : Int64) (w0_high : Int64) (H : Heap) (locs : List Loc) (ls : Array Slot), va_P (dC, dI) vwCl [(h0, .inr (3, [.long w0_low, .long w0_middle, .long w0_high]))] H → va_D A [(h0, .inr (3, [.long w0_low, .long w0_middle, .long w0_high]))] → va_S A s.heap H locs → lv_has ls 1 [(0, .ref h0)] → w333_L27 post w0_low w0_middle w0_high → W p l e (headSpec px_s333 ({ frames := 0, cells := 0, slots := 0, locals := 0 })).room s m ([.ref h0]).toArray below meth c H locs 0 0 Q (F0 m 27 ls []) := by
    intro w0_low w0_middle w0_high H locs ls hP hD hS hl hw
    unfold w333_L27 at hw
    refine lv_iconst (v := 0) hx hb px_d333_27 (by decide) ?_
    exact S28 0 w0_low w0_middle w0_high H locs ls hP hD hS (lv_sub hl [0] rfl) hw
  unfold w333_wp at hw
  have hS0 := hS
  obtain ⟨H, hH9⟩ : ∃ z, z = s.heap := ⟨_, rfl⟩
  have hP : va_P (dC, dI) vwCl [(h0, .inr (3, [.long w0_low, .long w0_middle, .long w0_high]))] H := by rw [hH9]; exact hP
  obtain ⟨locs, hlo9⟩ : ∃ z : List Loc, z = [] := ⟨_, rfl⟩
  have hS : va_S A s.heap H locs := by rw [hH9, hlo9]; exact hS
  suffices hG : W p l e (headSpec px_s333 ({ frames := 0, cells := 0, slots := 0, locals := 0 })).room s m ([.ref h0]).toArray below meth c H locs 0 0 Q (F0 m 0 ls []) by rw [hH9, hlo9] at hG; exact hG
  refine lv_aload_n hx hb px_d333_0 rfl (lv_at hl 0 rfl) ?_
  refine va_get (D := (dC, dI)) (ci := 3) (v := .long w0_low) (C := "MatroidDesk$Wide") (T := px_T3) (N := 3) hx hb htw px_in3 hown hK hP 0 rfl rfl 0 (by decide) (htw _ px_w1593) (fun _ h9 => h9) rfl px_d333_1 ?_
  refine lv_lconst (v := 1) hx hb px_d333_4 (by decide) ?_
  refine W.lcmp hx hb px_d333_5 ?_
  refine lv_if_ne (tgt := 27) hx hb px_d333_6 (by decide) (fun c6 => ?_) (fun c6 => ?_)
  · have hw := hw.1 c6
    exact S27 w0_low w0_middle w0_high H locs ls hP hD hS (lv_sub hl [0] rfl) hw
  · have hw := hw.2 c6
    refine lv_aload_n hx hb px_d333_9 rfl (lv_at hl 0 rfl) ?_
    refine va_get (D := (dC, dI)) (ci := 3) (v := .long w0_middle) (C := "MatroidDesk$Wide") (T := px_T3) (N := 3) hx hb htw px_in3 hown hK hP 0 rfl rfl 1 (by decide) (htw _ px_w1594) (fun _ h9 => h9) rfl px_d333_10 ?_
    refine lv_aload_n hx hb px_d333_13 rfl (lv_at hl 0 rfl) ?_
    refine va_get (D := (dC, dI)) (ci := 3) (v := .long w0_high) (C := "MatroidDesk$Wide") (T := px_T3) (N := 3) hx hb htw px_in3 hown hK hP 0 rfl rfl 2 (by decide) (htw _ px_w1595) (fun _ h9 => h9) rfl px_d333_14 ?_
    refine lv_lor hx hb px_d333_17 ?_
    refine lv_lconst (v := 0) hx hb px_d333_18 (by decide) ?_
    refine W.lcmp hx hb px_d333_19 ?_
    refine lv_if_ne (tgt := 27) hx hb px_d333_20 (by decide) (fun c20 => ?_) (fun c20 => ?_)
    · have hw := hw.1 c20
      exact S27 w0_low w0_middle w0_high H locs ls hP hD hS (lv_sub hl [0] rfl) hw
    · have hw := hw.2 c20
      refine lv_iconst (v := 1) hx hb px_d333_23 (by decide) ?_
      refine lv_goto (tgt := 28) hx hb px_d333_24 (by decide) ?_
      exact S28 1 w0_low w0_middle w0_high H locs ls hP hD hS (lv_sub hl [0] rfl) hw

/-! MatroidDesk$Wide.isShort()Z -/
def w320_L26 (post : Int32 → Int64 → Int64 → Int64 → Prop) (y0 : Int32) (w0_low : Int64) (w0_middle : Int64) (w0_high : Int64) : Prop := narrow .boolean (.int y0) = .int y0 ∧ post y0 w0_low w0_middle w0_high
def w320_L25 (post : Int32 → Int64 → Int64 → Int64 → Prop) (w0_low : Int64) (w0_middle : Int64) (w0_high : Int64) : Prop := w320_L26 post 0 w0_low w0_middle w0_high
def w320_wp (post : Int32 → Int64 → Int64 → Int64 → Prop) (w0_low : Int64) (w0_middle : Int64) (w0_high : Int64) : Prop := (¬ (lg_cmp w0_high 0) = 0 → w320_L25 post w0_low w0_middle w0_high) ∧ ((lg_cmp w0_high 0) = 0 → (¬ (lg_cmp ((w0_middle : Int64) >>> ((15 : Int32).toInt64 &&& 63)) 0) = 0 → w320_L25 post w0_low w0_middle w0_high) ∧ ((lg_cmp ((w0_middle : Int64) >>> ((15 : Int32).toInt64 &&& 63)) 0) = 0 → w320_L26 post 1 w0_low w0_middle w0_high))
set_option maxHeartbeats 8000000 in
set_option maxRecDepth 100000 in
theorem w320_met (l : Launch) (dC : Nat → ClassId) (dI : Nat → Nat → Nat) (sz : Nat) (h0 : Nat) (w0_low : Int64) (w0_middle : Int64) (w0_high : Int64) (post : Int32 → Int64 → Int64 → Int64 → Prop) (hw : w320_wp post w0_low w0_middle w0_high) : Met l px_y320 px_s320 ({ frames := 0, cells := 0, slots := 0, locals := 0 }) (va_Pc [.ref h0] (fun U => U.heap.size = sz ∧ va_P (dC, dI) vwCl [(h0, .inr (3, [.long w0_low, .long w0_middle, .long w0_high]))] U.heap ∧ va_K (dC, dI) vwCl [] U ∧ va_D (fun _ => True) [(h0, .inr (3, [.long w0_low, .long w0_middle, .long w0_high]))] ∧ px_N U)) (va_Qi (fun (r : Int32) (u : Int64 × Int64 × Int64) => post r u.1 u.2.1 u.2.2) (fun (u : Int64 × Int64 × Int64) (t : State) => va_P (dC, dI) vwCl [(h0, .inr (3, [.long u.1, .long u.2.1, .long u.2.2]))] t.heap ∧ va_K (dC, dI) vwCl [] t ∧ va_D (va_A [(h0, .inr (3, [.long w0_low, .long w0_middle, .long w0_high]))] sz) [(h0, .inr (3, [.long u.1, .long u.2.1, .long u.2.2]))]) (va_A [(h0, .inr (3, [.long w0_low, .long w0_middle, .long w0_high]))] sz)) 0 0 (va_A [(h0, .inr (3, [.long w0_low, .long w0_middle, .long w0_high]))] sz) := by
  refine Met.ofW (cc := prog_12_method_5_code) (maxL := 1) (ret := (some .boolean)) (by decide) rfl ?_
  intro p e s m args below meth c s₁ B hml hv
  obtain ⟨rfl, hsz, hP, hK, hD0, hN⟩ := hv
  have hx := B.exec
  have hb := B.bytes
  have hr := B.returns
  have htw : ∀ w ∈ px_all, w.before _ s = true := fun w h => atoms_spec (ws := px_s320) B.pre w (List.mem_cons_of_mem _ h)
  have hown : s.vm.findClass "MatroidDesk$Wide" = some m.cls := findClass_of_methodNamed B.named
  have hlocks := B.notSynchronized
  subst hsz
  have hD := hD0.self (sz := s.heap.size)
  generalize hAe : va_A [(h0, .inr (3, [.long w0_low, .long w0_middle, .long w0_high]))] s.heap.size = A at hD ⊢
  have hA : ∀ q : Nat, s.heap.size ≤ q → A q := fun q h => by rw [← hAe]; exact Or.inr h
  have hS : va_S A s.heap s.heap [] := va_S.rf
  have hP : va_P (dC, dI) vwCl [(h0, .inr (3, [.long w0_low, .long w0_middle, .long w0_high]))] s.heap := hP
  have hl := lv_entry ([.ref h0]) (n := 1) (Nat.le_of_ble_eq_true rfl)
  rw [lg_entry_eq]
  generalize (lg_sl ([.ref h0]) ++ List.replicate (1 - (lg_sl ([.ref h0])).length) Slot.unset).toArray = ls at hl ⊢
  have hl : lv_has ls 1 [(0, .ref h0)] := hl
  generalize hQ : MQ _ _ _ _ _ _ _ = Q
  have S26 : ∀ (y0 : Int32) (w0_low : Int64) (w0_middle : Int64) (w0_high : Int64) (H : Heap) (locs : List Loc) (ls : Array Slot), va_P (dC, dI) vwCl [(h0, .inr (3, [.long w0_low, .long w0_middle, .long w0_high]))] H → va_D A [(h0, .inr (3, [.long w0_low, .long w0_middle, .long w0_high]))] → va_S A s.heap H locs → lv_has ls 1 [(0, .ref h0)] → w320_L26 post y0 w0_low w0_middle w0_high → W p l e (headSpec px_s320 ({ frames := 0, cells := 0, slots := 0, locals := 0 })).room s m ([.ref h0]).toArray below meth c H locs 0 0 Q (F0 m 26 ls [.int y0]) := by
    intro y0 w0_low w0_middle w0_high H locs ls hP hD hS hl hw
    unfold w320_L26 at hw
    obtain ⟨hz9, hw⟩ := hw
    rw [← hQ]
    exact W.zret (v := y0) hx hb hr hz9 (fun t ht hW => ⟨⟨y0, (w0_low, w0_middle, w0_high), rfl, hw, by rw [ht]; exact hP, va_K.moved hW.alike hK, hD⟩, hS.F ht⟩) hS.2.2 px_d320_26
  have S25 : ∀ (w0_low : Int64) (w0_middle : Int64) (w0_high : Int64) (H : Heap) (locs : List Loc) (ls : Array Slot), va_P (dC, dI) vwCl [(h0, .inr (3, [.long w0_low, .long w0_middle, .long w0_high]))] H → va_D A [(h0, .inr (3, [.long w0_low, .long w0_middle, .long w0_high]))] → va_S A s.heap H locs → lv_has ls 1 [(0, .ref h0)] → w320_L25 post w0_low w0_middle w0_high → W p l e (headSpec px_s320 ({ frames := 0, cells := 0, slots := 0, locals := 0 })).room s m ([.ref h0]).toArray below meth c H locs 0 0 Q (F0 m 25 ls []) := by
    intro w0_low w0_middle w0_high H locs ls hP hD hS hl hw
    unfold w320_L25 at hw
    refine lv_iconst (v := 0) hx hb px_d320_25 (by decide) ?_
    exact S26 0 w0_low w0_middle w0_high H locs ls hP hD hS (lv_sub hl [0] rfl) hw
  unfold w320_wp at hw
  have hS0 := hS
  obtain ⟨H, hH9⟩ : ∃ z, z = s.heap := ⟨_, rfl⟩
  have hP : va_P (dC, dI) vwCl [(h0, .inr (3, [.long w0_low, .long w0_middle, .long w0_high]))] H := by rw [hH9]; exact hP
  obtain ⟨locs, hlo9⟩ : ∃ z : List Loc, z = [] := ⟨_, rfl⟩
  have hS : va_S A s.heap H locs := by rw [hH9, hlo9]; exact hS
  suffices hG : W p l e (headSpec px_s320 ({ frames := 0, cells := 0, slots := 0, locals := 0 })).room s m ([.ref h0]).toArray below meth c H locs 0 0 Q (F0 m 0 ls []) by rw [hH9, hlo9] at hG; exact hG
  refine lv_aload_n hx hb px_d320_0 rfl (lv_at hl 0 rfl) ?_
  refine va_get (D := (dC, dI)) (ci := 3) (v := .long w0_high) (C := "MatroidDesk$Wide") (T := px_T3) (N := 3) hx hb htw px_in3 hown hK hP 0 rfl rfl 2 (by decide) (htw _ px_w1595) (fun _ h9 => h9) rfl px_d320_1 ?_
  refine lv_lconst (v := 0) hx hb px_d320_4 (by decide) ?_
  refine W.lcmp hx hb px_d320_5 ?_
  refine lv_if_ne (tgt := 25) hx hb px_d320_6 (by decide) (fun c6 => ?_) (fun c6 => ?_)
  · have hw := hw.1 c6
    exact S25 w0_low w0_middle w0_high H locs ls hP hD hS (lv_sub hl [0] rfl) hw
  · have hw := hw.2 c6
    refine lv_aload_n hx hb px_d320_9 rfl (lv_at hl 0 rfl) ?_
    refine va_get (D := (dC, dI)) (ci := 3) (v := .long w0_middle) (C := "MatroidDesk$Wide") (T := px_T3) (N := 3) hx hb htw px_in3 hown hK hP 0 rfl rfl 1 (by decide) (htw _ px_w1594) (fun _ h9 => h9) rfl px_d320_10 ?_
    refine lv_bipush (v := 15) hx hb px_d320_13 (by decide) ?_
    refine lv_lshr (v := (w0_middle : Int64) >>> ((15 : Int32).toInt64 &&& 63)) hx hb px_d320_15 rfl ?_
    refine lv_lconst (v := 0) hx hb px_d320_16 (by decide) ?_
    refine W.lcmp hx hb px_d320_17 ?_
    refine lv_if_ne (tgt := 25) hx hb px_d320_18 (by decide) (fun c18 => ?_) (fun c18 => ?_)
    · have hw := hw.1 c18
      exact S25 w0_low w0_middle w0_high H locs ls hP hD hS (lv_sub hl [0] rfl) hw
    · have hw := hw.2 c18
      refine lv_iconst (v := 1) hx hb px_d320_21 (by decide) ?_
      refine lv_goto (tgt := 26) hx hb px_d320_22 (by decide) ?_
      exact S26 1 w0_low w0_middle w0_high H locs ls hP hD hS (lv_sub hl [0] rfl) hw

/-! MatroidDesk$Wide.asLong()J -/
def w321_wp (post : Int64 → Int64 → Int64 → Int64 → Prop) (w0_low : Int64) (w0_middle : Int64) (w0_high : Int64) : Prop := post (((w0_middle : Int64) <<< ((48 : Int32).toInt64 &&& 63)) ||| w0_low) w0_low w0_middle w0_high
set_option maxHeartbeats 8000000 in
set_option maxRecDepth 100000 in
theorem w321_met (l : Launch) (dC : Nat → ClassId) (dI : Nat → Nat → Nat) (sz : Nat) (h0 : Nat) (w0_low : Int64) (w0_middle : Int64) (w0_high : Int64) (post : Int64 → Int64 → Int64 → Int64 → Prop) (hw : w321_wp post w0_low w0_middle w0_high) : Met l px_y321 px_s321 ({ frames := 0, cells := 0, slots := 0, locals := 0 }) (va_Pc [.ref h0] (fun U => U.heap.size = sz ∧ va_P (dC, dI) vwCl [(h0, .inr (3, [.long w0_low, .long w0_middle, .long w0_high]))] U.heap ∧ va_K (dC, dI) vwCl [] U ∧ va_D (fun _ => True) [(h0, .inr (3, [.long w0_low, .long w0_middle, .long w0_high]))] ∧ px_N U)) (va_Ql (fun (r : Int64) (u : Int64 × Int64 × Int64) => post r u.1 u.2.1 u.2.2) (fun (u : Int64 × Int64 × Int64) (t : State) => va_P (dC, dI) vwCl [(h0, .inr (3, [.long u.1, .long u.2.1, .long u.2.2]))] t.heap ∧ va_K (dC, dI) vwCl [] t ∧ va_D (va_A [(h0, .inr (3, [.long w0_low, .long w0_middle, .long w0_high]))] sz) [(h0, .inr (3, [.long u.1, .long u.2.1, .long u.2.2]))]) (va_A [(h0, .inr (3, [.long w0_low, .long w0_middle, .long w0_high]))] sz)) 0 0 (va_A [(h0, .inr (3, [.long w0_low, .long w0_middle, .long w0_high]))] sz) := by
  refine Met.ofW (cc := prog_12_method_6_code) (maxL := 1) (ret := (some .long)) (by decide) rfl ?_
  intro p e s m args below meth c s₁ B hml hv
  obtain ⟨rfl, hsz, hP, hK, hD0, hN⟩ := hv
  have hx := B.exec
  have hb := B.bytes
  have hr := B.returns
  have htw : ∀ w ∈ px_all, w.before _ s = true := fun w h => atoms_spec (ws := px_s321) B.pre w (List.mem_cons_of_mem _ h)
  have hown : s.vm.findClass "MatroidDesk$Wide" = some m.cls := findClass_of_methodNamed B.named
  have hlocks := B.notSynchronized
  subst hsz
  have hD := hD0.self (sz := s.heap.size)
  generalize hAe : va_A [(h0, .inr (3, [.long w0_low, .long w0_middle, .long w0_high]))] s.heap.size = A at hD ⊢
  have hA : ∀ q : Nat, s.heap.size ≤ q → A q := fun q h => by rw [← hAe]; exact Or.inr h
  have hS : va_S A s.heap s.heap [] := va_S.rf
  have hP : va_P (dC, dI) vwCl [(h0, .inr (3, [.long w0_low, .long w0_middle, .long w0_high]))] s.heap := hP
  have hl := lv_entry ([.ref h0]) (n := 1) (Nat.le_of_ble_eq_true rfl)
  rw [lg_entry_eq]
  generalize (lg_sl ([.ref h0]) ++ List.replicate (1 - (lg_sl ([.ref h0])).length) Slot.unset).toArray = ls at hl ⊢
  have hl : lv_has ls 1 [(0, .ref h0)] := hl
  generalize hQ : MQ _ _ _ _ _ _ _ = Q
  unfold w321_wp at hw
  have hS0 := hS
  obtain ⟨H, hH9⟩ : ∃ z, z = s.heap := ⟨_, rfl⟩
  have hP : va_P (dC, dI) vwCl [(h0, .inr (3, [.long w0_low, .long w0_middle, .long w0_high]))] H := by rw [hH9]; exact hP
  obtain ⟨locs, hlo9⟩ : ∃ z : List Loc, z = [] := ⟨_, rfl⟩
  have hS : va_S A s.heap H locs := by rw [hH9, hlo9]; exact hS
  suffices hG : W p l e (headSpec px_s321 ({ frames := 0, cells := 0, slots := 0, locals := 0 })).room s m ([.ref h0]).toArray below meth c H locs 0 0 Q (F0 m 0 ls []) by rw [hH9, hlo9] at hG; exact hG
  refine lv_aload_n hx hb px_d321_0 rfl (lv_at hl 0 rfl) ?_
  refine va_get (D := (dC, dI)) (ci := 3) (v := .long w0_middle) (C := "MatroidDesk$Wide") (T := px_T3) (N := 3) hx hb htw px_in3 hown hK hP 0 rfl rfl 1 (by decide) (htw _ px_w1594) (fun _ h9 => h9) rfl px_d321_1 ?_
  refine lv_bipush (v := 48) hx hb px_d321_4 (by decide) ?_
  refine lv_lshl (v := (w0_middle : Int64) <<< ((48 : Int32).toInt64 &&& 63)) hx hb px_d321_6 rfl ?_
  refine lv_aload_n hx hb px_d321_7 rfl (lv_at hl 0 rfl) ?_
  refine va_get (D := (dC, dI)) (ci := 3) (v := .long w0_low) (C := "MatroidDesk$Wide") (T := px_T3) (N := 3) hx hb htw px_in3 hown hK hP 0 rfl rfl 0 (by decide) (htw _ px_w1593) (fun _ h9 => h9) rfl px_d321_8 ?_
  refine lv_lor hx hb px_d321_11 ?_
  rw [← hQ]
  exact W.lret (v := ((w0_middle : Int64) <<< ((48 : Int32).toInt64 &&& 63)) ||| w0_low) hx hb hr (fun t ht hW => ⟨⟨((w0_middle : Int64) <<< ((48 : Int32).toInt64 &&& 63)) ||| w0_low, (w0_low, w0_middle, w0_high), rfl, hw, by rw [ht]; exact hP, va_K.moved hW.alike hK, hD⟩, hS.F ht⟩) hS.2.2 px_d321_12

/-! MatroidDesk$Wide.tenth()I -/
def w332_wp (post : Int32 → Int64 → Int64 → Int64 → Prop) (w0_low : Int64) (w0_middle : Int64) (w0_high : Int64) : Prop := ∀ z1 : Int64, z1 = w0_high - w0_high / 10 * 10 → ∀ z2 : Int64, z2 = w0_high / 10 → ∀ z3 : Int64, z3 = ((z1 : Int64) <<< ((48 : Int32).toInt64 &&& 63)) ||| w0_middle → ∀ z4 : Int64, z4 = z3 / 10 → ∀ z5 : Int64, z5 = ((z3 - z3 / 10 * 10 : Int64) <<< ((48 : Int32).toInt64 &&& 63)) ||| w0_low → ∀ z6 : Int64, z6 = z5 / 10 → post ((z5 - z5 / 10 * 10).toInt32) z6 z4 z2
set_option maxHeartbeats 8000000 in
set_option maxRecDepth 100000 in
theorem w332_met (l : Launch) (dC : Nat → ClassId) (dI : Nat → Nat → Nat) (sz : Nat) (h0 : Nat) (w0_low : Int64) (w0_middle : Int64) (w0_high : Int64) (post : Int32 → Int64 → Int64 → Int64 → Prop) (hw : w332_wp post w0_low w0_middle w0_high) : Met l px_y332 px_s332 ({ frames := 0, cells := 0, slots := 0, locals := 0 }) (va_Pc [.ref h0] (fun U => U.heap.size = sz ∧ va_P (dC, dI) vwCl [(h0, .inr (3, [.long w0_low, .long w0_middle, .long w0_high]))] U.heap ∧ va_K (dC, dI) vwCl [] U ∧ va_D (fun _ => True) [(h0, .inr (3, [.long w0_low, .long w0_middle, .long w0_high]))] ∧ px_N U)) (va_Qi (fun (r : Int32) (u : Int64 × Int64 × Int64) => post r u.1 u.2.1 u.2.2) (fun (u : Int64 × Int64 × Int64) (t : State) => va_P (dC, dI) vwCl [(h0, .inr (3, [.long u.1, .long u.2.1, .long u.2.2]))] t.heap ∧ va_K (dC, dI) vwCl [] t ∧ va_D (va_A [(h0, .inr (3, [.long w0_low, .long w0_middle, .long w0_high]))] sz) [(h0, .inr (3, [.long u.1, .long u.2.1, .long u.2.2]))]) (va_A [(h0, .inr (3, [.long w0_low, .long w0_middle, .long w0_high]))] sz)) 0 0 (va_A [(h0, .inr (3, [.long w0_low, .long w0_middle, .long w0_high]))] sz) := by
  refine Met.ofW (cc := prog_12_method_9_code) (maxL := 3) (ret := (some .int)) (by decide) rfl ?_
  intro p e s m args below meth c s₁ B hml hv
  obtain ⟨rfl, hsz, hP, hK, hD0, hN⟩ := hv
  have hx := B.exec
  have hb := B.bytes
  have hr := B.returns
  have htw : ∀ w ∈ px_all, w.before _ s = true := fun w h => atoms_spec (ws := px_s332) B.pre w (List.mem_cons_of_mem _ h)
  have hown : s.vm.findClass "MatroidDesk$Wide" = some m.cls := findClass_of_methodNamed B.named
  have hlocks := B.notSynchronized
  subst hsz
  have hD := hD0.self (sz := s.heap.size)
  generalize hAe : va_A [(h0, .inr (3, [.long w0_low, .long w0_middle, .long w0_high]))] s.heap.size = A at hD ⊢
  have hA : ∀ q : Nat, s.heap.size ≤ q → A q := fun q h => by rw [← hAe]; exact Or.inr h
  have hS : va_S A s.heap s.heap [] := va_S.rf
  have hP : va_P (dC, dI) vwCl [(h0, .inr (3, [.long w0_low, .long w0_middle, .long w0_high]))] s.heap := hP
  have hl := lv_entry ([.ref h0]) (n := 3) (Nat.le_of_ble_eq_true rfl)
  rw [lg_entry_eq]
  generalize (lg_sl ([.ref h0]) ++ List.replicate (3 - (lg_sl ([.ref h0])).length) Slot.unset).toArray = ls at hl ⊢
  have hl : lv_has ls 3 [(0, .ref h0)] := hl
  generalize hQ : MQ _ _ _ _ _ _ _ = Q
  unfold w332_wp at hw
  have hS0 := hS
  obtain ⟨H, hH9⟩ : ∃ z, z = s.heap := ⟨_, rfl⟩
  have hP : va_P (dC, dI) vwCl [(h0, .inr (3, [.long w0_low, .long w0_middle, .long w0_high]))] H := by rw [hH9]; exact hP
  obtain ⟨locs, hlo9⟩ : ∃ z : List Loc, z = [] := ⟨_, rfl⟩
  have hS : va_S A s.heap H locs := by rw [hH9, hlo9]; exact hS
  suffices hG : W p l e (headSpec px_s332 ({ frames := 0, cells := 0, slots := 0, locals := 0 })).room s m ([.ref h0]).toArray below meth c H locs 0 0 Q (F0 m 0 ls []) by rw [hH9, hlo9] at hG; exact hG
  refine lv_aload_n hx hb px_d332_0 rfl (lv_at hl 0 rfl) ?_
  refine va_get (D := (dC, dI)) (ci := 3) (v := .long w0_high) (C := "MatroidDesk$Wide") (T := px_T3) (N := 3) hx hb htw px_in3 hown hK hP 0 rfl rfl 2 (by decide) (htw _ px_w1595) (fun _ h9 => h9) rfl px_d332_1 ?_
  refine lv_ldc2 hx hb (own := "MatroidDesk$Wide") (index := 61) (v := 10) hown (htw _ px_w1654) px_d332_4 ?_
  refine lv_lrem hx hb px_d332_7 (by decide +kernel) ?_
  refine lv_topl (fun z1 ez1 => ?_)
  have hw := hw z1 ez1
  refine lv_lstore_n (lv' := [(1, .long z1), (0, .ref h0)]) hx hb px_d332_8 rfl hl (by decide) rfl (fun ls hl => ?_)
  refine lv_aload_n hx hb px_d332_9 rfl (lv_at hl 1 rfl) ?_
  refine lv_dup hx hb px_d332_10 rfl ?_
  refine va_get (D := (dC, dI)) (ci := 3) (v := .long w0_high) (C := "MatroidDesk$Wide") (T := px_T3) (N := 3) hx hb htw px_in3 hown hK hP 0 rfl rfl 2 (by decide) (htw _ px_w1595) (fun _ h9 => h9) rfl px_d332_11 ?_
  refine lv_ldc2 hx hb (own := "MatroidDesk$Wide") (index := 61) (v := 10) hown (htw _ px_w1654) px_d332_14 ?_
  refine lv_ldiv hx hb px_d332_17 (by decide +kernel) ?_
  refine lv_topl (fun z2 ez2 => ?_)
  have hw := hw z2 ez2
  refine va_put (D := (dC, dI)) (ci := 3) (v := .long z2) (ty := .long) (C := "MatroidDesk$Wide") (T := px_T3) (N := 3) hx hb htw px_in3 px_ty3 px_tyok3 px_nm3 hown hK hP hD hS 0 rfl rfl 2 (by decide) (htw _ px_w1595) (fun _ h9 => h9) rfl (by decide +kernel) rfl rfl (Nat.le_of_ble_eq_true rfl) px_d332_18 (fun H locs hP hD hS => ?_)
  have hP : va_P (dC, dI) vwCl [(h0, .inr (3, [.long w0_low, .long w0_middle, .long z2]))] H := hP
  have hD : va_D A [(h0, .inr (3, [.long w0_low, .long w0_middle, .long z2]))] := hD
  refine lv_lload_n hx hb px_d332_21 rfl (lv_at hl 0 rfl) ?_
  refine lv_bipush (v := 48) hx hb px_d332_22 (by decide) ?_
  refine lv_lshl (v := (z1 : Int64) <<< ((48 : Int32).toInt64 &&& 63)) hx hb px_d332_24 rfl ?_
  refine lv_aload_n hx hb px_d332_25 rfl (lv_at hl 1 rfl) ?_
  refine va_get (D := (dC, dI)) (ci := 3) (v := .long w0_middle) (C := "MatroidDesk$Wide") (T := px_T3) (N := 3) hx hb htw px_in3 hown hK hP 0 rfl rfl 1 (by decide) (htw _ px_w1594) (fun _ h9 => h9) rfl px_d332_26 ?_
  refine lv_lor hx hb px_d332_29 ?_
  refine lv_topl (fun z3 ez3 => ?_)
  have hw := hw z3 ez3
  refine lv_lstore_n (lv' := [(1, .long z3), (0, .ref h0)]) hx hb px_d332_30 rfl hl (by decide) rfl (fun ls hl => ?_)
  refine lv_aload_n hx hb px_d332_31 rfl (lv_at hl 1 rfl) ?_
  refine lv_lload_n hx hb px_d332_32 rfl (lv_at hl 0 rfl) ?_
  refine lv_ldc2 hx hb (own := "MatroidDesk$Wide") (index := 61) (v := 10) hown (htw _ px_w1654) px_d332_33 ?_
  refine lv_ldiv hx hb px_d332_36 (by decide +kernel) ?_
  refine lv_topl (fun z4 ez4 => ?_)
  have hw := hw z4 ez4
  refine va_put (D := (dC, dI)) (ci := 3) (v := .long z4) (ty := .long) (C := "MatroidDesk$Wide") (T := px_T3) (N := 3) hx hb htw px_in3 px_ty3 px_tyok3 px_nm3 hown hK hP hD hS 0 rfl rfl 1 (by decide) (htw _ px_w1594) (fun _ h9 => h9) rfl (by decide +kernel) rfl rfl (Nat.le_of_ble_eq_true rfl) px_d332_37 (fun H locs hP hD hS => ?_)
  have hP : va_P (dC, dI) vwCl [(h0, .inr (3, [.long w0_low, .long z4, .long z2]))] H := hP
  have hD : va_D A [(h0, .inr (3, [.long w0_low, .long z4, .long z2]))] := hD
  refine lv_lload_n hx hb px_d332_40 rfl (lv_at hl 0 rfl) ?_
  refine lv_ldc2 hx hb (own := "MatroidDesk$Wide") (index := 61) (v := 10) hown (htw _ px_w1654) px_d332_41 ?_
  refine lv_lrem hx hb px_d332_44 (by decide +kernel) ?_
  refine lv_bipush (v := 48) hx hb px_d332_45 (by decide) ?_
  refine lv_lshl (v := (z3 - z3 / 10 * 10 : Int64) <<< ((48 : Int32).toInt64 &&& 63)) hx hb px_d332_47 rfl ?_
  refine lv_aload_n hx hb px_d332_48 rfl (lv_at hl 1 rfl) ?_
  refine va_get (D := (dC, dI)) (ci := 3) (v := .long w0_low) (C := "MatroidDesk$Wide") (T := px_T3) (N := 3) hx hb htw px_in3 hown hK hP 0 rfl rfl 0 (by decide) (htw _ px_w1593) (fun _ h9 => h9) rfl px_d332_49 ?_
  refine lv_lor hx hb px_d332_52 ?_
  refine lv_topl (fun z5 ez5 => ?_)
  have hw := hw z5 ez5
  refine lv_lstore_n (lv' := [(1, .long z5), (0, .ref h0)]) hx hb px_d332_53 rfl hl (by decide) rfl (fun ls hl => ?_)
  refine lv_aload_n hx hb px_d332_54 rfl (lv_at hl 1 rfl) ?_
  refine lv_lload_n hx hb px_d332_55 rfl (lv_at hl 0 rfl) ?_
  refine lv_ldc2 hx hb (own := "MatroidDesk$Wide") (index := 61) (v := 10) hown (htw _ px_w1654) px_d332_56 ?_
  refine lv_ldiv hx hb px_d332_59 (by decide +kernel) ?_
  refine lv_topl (fun z6 ez6 => ?_)
  have hw := hw z6 ez6
  refine va_put (D := (dC, dI)) (ci := 3) (v := .long z6) (ty := .long) (C := "MatroidDesk$Wide") (T := px_T3) (N := 3) hx hb htw px_in3 px_ty3 px_tyok3 px_nm3 hown hK hP hD hS 0 rfl rfl 0 (by decide) (htw _ px_w1593) (fun _ h9 => h9) rfl (by decide +kernel) rfl rfl (Nat.le_of_ble_eq_true rfl) px_d332_60 (fun H locs hP hD hS => ?_)
  have hP : va_P (dC, dI) vwCl [(h0, .inr (3, [.long z6, .long z4, .long z2]))] H := hP
  have hD : va_D A [(h0, .inr (3, [.long z6, .long z4, .long z2]))] := hD
  refine lv_lload_n hx hb px_d332_63 rfl (lv_at hl 0 rfl) ?_
  refine lv_ldc2 hx hb (own := "MatroidDesk$Wide") (index := 61) (v := 10) hown (htw _ px_w1654) px_d332_64 ?_
  refine lv_lrem hx hb px_d332_67 (by decide +kernel) ?_
  refine lv_l2i (v := (z5 - z5 / 10 * 10).toInt32) hx hb px_d332_68 rfl ?_
  rw [← hQ]
  exact W.iret (v := (z5 - z5 / 10 * 10).toInt32) hx hb hr (fun t ht hW => ⟨⟨(z5 - z5 / 10 * 10).toInt32, (z6, z4, z2), rfl, hw, by rw [ht]; exact hP, va_K.moved hW.alike hK, hD⟩, hS.F ht⟩) hS.2.2 px_d332_69

/-! MatroidDesk$Wide.swap(LMatroidDesk$Wide;)V -/
def w327_wp (post : Int64 → Int64 → Int64 → Int64 → Int64 → Int64 → Prop) (w0_low : Int64) (w0_middle : Int64) (w0_high : Int64) (w1_low : Int64) (w1_middle : Int64) (w1_high : Int64) : Prop := post w1_low w1_middle w1_high w0_low w0_middle w0_high
set_option maxHeartbeats 8000000 in
set_option maxRecDepth 100000 in
theorem w327_met (l : Launch) (dC : Nat → ClassId) (dI : Nat → Nat → Nat) (sz : Nat) (h0 : Nat) (h1 : Nat) (w0_low : Int64) (w0_middle : Int64) (w0_high : Int64) (w1_low : Int64) (w1_middle : Int64) (w1_high : Int64) (post : Int64 → Int64 → Int64 → Int64 → Int64 → Int64 → Prop) (hw : w327_wp post w0_low w0_middle w0_high w1_low w1_middle w1_high) : Met l px_y327 px_s327 ({ frames := 0, cells := 0, slots := 0, locals := 0 }) (va_Pc [.ref h0, .ref h1] (fun U => U.heap.size = sz ∧ va_P (dC, dI) vwCl [(h0, .inr (3, [.long w0_low, .long w0_middle, .long w0_high])), (h1, .inr (3, [.long w1_low, .long w1_middle, .long w1_high]))] U.heap ∧ va_K (dC, dI) vwCl [] U ∧ va_D (fun _ => True) [(h0, .inr (3, [.long w0_low, .long w0_middle, .long w0_high])), (h1, .inr (3, [.long w1_low, .long w1_middle, .long w1_high]))] ∧ px_N U)) (va_Qv (fun (u : Int64 × Int64 × Int64 × Int64 × Int64 × Int64) => post u.1 u.2.1 u.2.2.1 u.2.2.2.1 u.2.2.2.2.1 u.2.2.2.2.2) (fun (u : Int64 × Int64 × Int64 × Int64 × Int64 × Int64) (t : State) => va_P (dC, dI) vwCl [(h0, .inr (3, [.long u.1, .long u.2.1, .long u.2.2.1])), (h1, .inr (3, [.long u.2.2.2.1, .long u.2.2.2.2.1, .long u.2.2.2.2.2]))] t.heap ∧ va_K (dC, dI) vwCl [] t ∧ va_D (va_A [(h0, .inr (3, [.long w0_low, .long w0_middle, .long w0_high])), (h1, .inr (3, [.long w1_low, .long w1_middle, .long w1_high]))] sz) [(h0, .inr (3, [.long u.1, .long u.2.1, .long u.2.2.1])), (h1, .inr (3, [.long u.2.2.2.1, .long u.2.2.2.2.1, .long u.2.2.2.2.2]))]) (va_A [(h0, .inr (3, [.long w0_low, .long w0_middle, .long w0_high])), (h1, .inr (3, [.long w1_low, .long w1_middle, .long w1_high]))] sz)) 0 0 (va_A [(h0, .inr (3, [.long w0_low, .long w0_middle, .long w0_high])), (h1, .inr (3, [.long w1_low, .long w1_middle, .long w1_high]))] sz) := by
  refine Met.ofW (cc := prog_12_method_11_code) (maxL := 8) (ret := none) (by decide) rfl ?_
  intro p e s m args below meth c s₁ B hml hv
  obtain ⟨rfl, hsz, hP, hK, hD0, hN⟩ := hv
  have hx := B.exec
  have hb := B.bytes
  have hr := B.returns
  have htw : ∀ w ∈ px_all, w.before _ s = true := fun w h => atoms_spec (ws := px_s327) B.pre w (List.mem_cons_of_mem _ h)
  have hown : s.vm.findClass "MatroidDesk$Wide" = some m.cls := findClass_of_methodNamed B.named
  have hlocks := B.notSynchronized
  subst hsz
  have hD := hD0.self (sz := s.heap.size)
  generalize hAe : va_A [(h0, .inr (3, [.long w0_low, .long w0_middle, .long w0_high])), (h1, .inr (3, [.long w1_low, .long w1_middle, .long w1_high]))] s.heap.size = A at hD ⊢
  have hA : ∀ q : Nat, s.heap.size ≤ q → A q := fun q h => by rw [← hAe]; exact Or.inr h
  have hS : va_S A s.heap s.heap [] := va_S.rf
  have hP : va_P (dC, dI) vwCl [(h0, .inr (3, [.long w0_low, .long w0_middle, .long w0_high])), (h1, .inr (3, [.long w1_low, .long w1_middle, .long w1_high]))] s.heap := hP
  have hl := lv_entry ([.ref h0, .ref h1]) (n := 8) (Nat.le_of_ble_eq_true rfl)
  rw [lg_entry_eq]
  generalize (lg_sl ([.ref h0, .ref h1]) ++ List.replicate (8 - (lg_sl ([.ref h0, .ref h1])).length) Slot.unset).toArray = ls at hl ⊢
  have hl : lv_has ls 8 [(0, .ref h0), (1, .ref h1)] := hl
  generalize hQ : MQ _ _ _ _ _ _ _ = Q
  unfold w327_wp at hw
  have hS0 := hS
  obtain ⟨H, hH9⟩ : ∃ z, z = s.heap := ⟨_, rfl⟩
  have hP : va_P (dC, dI) vwCl [(h0, .inr (3, [.long w0_low, .long w0_middle, .long w0_high])), (h1, .inr (3, [.long w1_low, .long w1_middle, .long w1_high]))] H := by rw [hH9]; exact hP
  obtain ⟨locs, hlo9⟩ : ∃ z : List Loc, z = [] := ⟨_, rfl⟩
  have hS : va_S A s.heap H locs := by rw [hH9, hlo9]; exact hS
  suffices hG : W p l e (headSpec px_s327 ({ frames := 0, cells := 0, slots := 0, locals := 0 })).room s m ([.ref h0, .ref h1]).toArray below meth c H locs 0 0 Q (F0 m 0 ls []) by rw [hH9, hlo9] at hG; exact hG
  refine lv_aload_n hx hb px_d327_0 rfl (lv_at hl 0 rfl) ?_
  refine va_get (D := (dC, dI)) (ci := 3) (v := .long w0_low) (C := "MatroidDesk$Wide") (T := px_T3) (N := 3) hx hb htw px_in3 hown hK hP 0 rfl rfl 0 (by decide) (htw _ px_w1593) (fun _ h9 => h9) rfl px_d327_1 ?_
  refine lv_lstore_n (lv' := [(2, .long w0_low), (0, .ref h0), (1, .ref h1)]) hx hb px_d327_4 rfl hl (by decide) rfl (fun ls hl => ?_)
  refine lv_aload_n hx hb px_d327_5 rfl (lv_at hl 1 rfl) ?_
  refine va_get (D := (dC, dI)) (ci := 3) (v := .long w0_middle) (C := "MatroidDesk$Wide") (T := px_T3) (N := 3) hx hb htw px_in3 hown hK hP 0 rfl rfl 1 (by decide) (htw _ px_w1594) (fun _ h9 => h9) rfl px_d327_6 ?_
  refine lv_lstore (lv' := [(4, .long w0_middle), (2, .long w0_low), (0, .ref h0), (1, .ref h1)]) hx hb px_d327_9 hl (by decide) rfl (fun ls hl => ?_)
  refine lv_aload_n hx hb px_d327_11 rfl (lv_at hl 2 rfl) ?_
  refine va_get (D := (dC, dI)) (ci := 3) (v := .long w0_high) (C := "MatroidDesk$Wide") (T := px_T3) (N := 3) hx hb htw px_in3 hown hK hP 0 rfl rfl 2 (by decide) (htw _ px_w1595) (fun _ h9 => h9) rfl px_d327_12 ?_
  refine lv_lstore (lv' := [(6, .long w0_high), (4, .long w0_middle), (2, .long w0_low), (0, .ref h0), (1, .ref h1)]) hx hb px_d327_15 hl (by decide) rfl (fun ls hl => ?_)
  refine lv_aload_n hx hb px_d327_17 rfl (lv_at hl 3 rfl) ?_
  refine lv_aload_n hx hb px_d327_18 rfl (lv_at hl 4 rfl) ?_
  refine va_get (D := (dC, dI)) (ci := 3) (v := .long w1_low) (C := "MatroidDesk$Wide") (T := px_T3) (N := 3) hx hb htw px_in3 hown hK hP 1 rfl rfl 0 (by decide) (htw _ px_w1593) (fun _ h9 => h9) rfl px_d327_19 ?_
  refine va_put (D := (dC, dI)) (ci := 3) (v := .long w1_low) (ty := .long) (C := "MatroidDesk$Wide") (T := px_T3) (N := 3) hx hb htw px_in3 px_ty3 px_tyok3 px_nm3 hown hK hP hD hS 0 rfl rfl 0 (by decide) (htw _ px_w1593) (fun _ h9 => h9) rfl (by decide +kernel) rfl rfl (Nat.le_of_ble_eq_true rfl) px_d327_22 (fun H locs hP hD hS => ?_)
  have hP : va_P (dC, dI) vwCl [(h0, .inr (3, [.long w1_low, .long w0_middle, .long w0_high])), (h1, .inr (3, [.long w1_low, .long w1_middle, .long w1_high]))] H := hP
  have hD : va_D A [(h0, .inr (3, [.long w1_low, .long w0_middle, .long w0_high])), (h1, .inr (3, [.long w1_low, .long w1_middle, .long w1_high]))] := hD
  refine lv_aload_n hx hb px_d327_25 rfl (lv_at hl 3 rfl) ?_
  refine lv_aload_n hx hb px_d327_26 rfl (lv_at hl 4 rfl) ?_
  refine va_get (D := (dC, dI)) (ci := 3) (v := .long w1_middle) (C := "MatroidDesk$Wide") (T := px_T3) (N := 3) hx hb htw px_in3 hown hK hP 1 rfl rfl 1 (by decide) (htw _ px_w1594) (fun _ h9 => h9) rfl px_d327_27 ?_
  refine va_put (D := (dC, dI)) (ci := 3) (v := .long w1_middle) (ty := .long) (C := "MatroidDesk$Wide") (T := px_T3) (N := 3) hx hb htw px_in3 px_ty3 px_tyok3 px_nm3 hown hK hP hD hS 0 rfl rfl 1 (by decide) (htw _ px_w1594) (fun _ h9 => h9) rfl (by decide +kernel) rfl rfl (Nat.le_of_ble_eq_true rfl) px_d327_30 (fun H locs hP hD hS => ?_)
  have hP : va_P (dC, dI) vwCl [(h0, .inr (3, [.long w1_low, .long w1_middle, .long w0_high])), (h1, .inr (3, [.long w1_low, .long w1_middle, .long w1_high]))] H := hP
  have hD : va_D A [(h0, .inr (3, [.long w1_low, .long w1_middle, .long w0_high])), (h1, .inr (3, [.long w1_low, .long w1_middle, .long w1_high]))] := hD
  refine lv_aload_n hx hb px_d327_33 rfl (lv_at hl 3 rfl) ?_
  refine lv_aload_n hx hb px_d327_34 rfl (lv_at hl 4 rfl) ?_
  refine va_get (D := (dC, dI)) (ci := 3) (v := .long w1_high) (C := "MatroidDesk$Wide") (T := px_T3) (N := 3) hx hb htw px_in3 hown hK hP 1 rfl rfl 2 (by decide) (htw _ px_w1595) (fun _ h9 => h9) rfl px_d327_35 ?_
  refine va_put (D := (dC, dI)) (ci := 3) (v := .long w1_high) (ty := .long) (C := "MatroidDesk$Wide") (T := px_T3) (N := 3) hx hb htw px_in3 px_ty3 px_tyok3 px_nm3 hown hK hP hD hS 0 rfl rfl 2 (by decide) (htw _ px_w1595) (fun _ h9 => h9) rfl (by decide +kernel) rfl rfl (Nat.le_of_ble_eq_true rfl) px_d327_38 (fun H locs hP hD hS => ?_)
  have hP : va_P (dC, dI) vwCl [(h0, .inr (3, [.long w1_low, .long w1_middle, .long w1_high])), (h1, .inr (3, [.long w1_low, .long w1_middle, .long w1_high]))] H := hP
  have hD : va_D A [(h0, .inr (3, [.long w1_low, .long w1_middle, .long w1_high])), (h1, .inr (3, [.long w1_low, .long w1_middle, .long w1_high]))] := hD
  refine lv_aload_n hx hb px_d327_41 rfl (lv_at hl 4 rfl) ?_
  refine lv_lload_n hx hb px_d327_42 rfl (lv_at hl 2 rfl) ?_
  refine va_put (D := (dC, dI)) (ci := 3) (v := .long w0_low) (ty := .long) (C := "MatroidDesk$Wide") (T := px_T3) (N := 3) hx hb htw px_in3 px_ty3 px_tyok3 px_nm3 hown hK hP hD hS 1 rfl rfl 0 (by decide) (htw _ px_w1593) (fun _ h9 => h9) rfl (by decide +kernel) rfl rfl (Nat.le_of_ble_eq_true rfl) px_d327_43 (fun H locs hP hD hS => ?_)
  have hP : va_P (dC, dI) vwCl [(h0, .inr (3, [.long w1_low, .long w1_middle, .long w1_high])), (h1, .inr (3, [.long w0_low, .long w1_middle, .long w1_high]))] H := hP
  have hD : va_D A [(h0, .inr (3, [.long w1_low, .long w1_middle, .long w1_high])), (h1, .inr (3, [.long w0_low, .long w1_middle, .long w1_high]))] := hD
  refine lv_aload_n hx hb px_d327_46 rfl (lv_at hl 4 rfl) ?_
  refine lv_lload hx hb px_d327_47 (lv_at hl 1 rfl) ?_
  refine va_put (D := (dC, dI)) (ci := 3) (v := .long w0_middle) (ty := .long) (C := "MatroidDesk$Wide") (T := px_T3) (N := 3) hx hb htw px_in3 px_ty3 px_tyok3 px_nm3 hown hK hP hD hS 1 rfl rfl 1 (by decide) (htw _ px_w1594) (fun _ h9 => h9) rfl (by decide +kernel) rfl rfl (Nat.le_of_ble_eq_true rfl) px_d327_49 (fun H locs hP hD hS => ?_)
  have hP : va_P (dC, dI) vwCl [(h0, .inr (3, [.long w1_low, .long w1_middle, .long w1_high])), (h1, .inr (3, [.long w0_low, .long w0_middle, .long w1_high]))] H := hP
  have hD : va_D A [(h0, .inr (3, [.long w1_low, .long w1_middle, .long w1_high])), (h1, .inr (3, [.long w0_low, .long w0_middle, .long w1_high]))] := hD
  refine lv_aload_n hx hb px_d327_52 rfl (lv_at hl 4 rfl) ?_
  refine lv_lload hx hb px_d327_53 (lv_at hl 0 rfl) ?_
  refine va_put (D := (dC, dI)) (ci := 3) (v := .long w0_high) (ty := .long) (C := "MatroidDesk$Wide") (T := px_T3) (N := 3) hx hb htw px_in3 px_ty3 px_tyok3 px_nm3 hown hK hP hD hS 1 rfl rfl 2 (by decide) (htw _ px_w1595) (fun _ h9 => h9) rfl (by decide +kernel) rfl rfl (Nat.le_of_ble_eq_true rfl) px_d327_55 (fun H locs hP hD hS => ?_)
  have hP : va_P (dC, dI) vwCl [(h0, .inr (3, [.long w1_low, .long w1_middle, .long w1_high])), (h1, .inr (3, [.long w0_low, .long w0_middle, .long w0_high]))] H := hP
  have hD : va_D A [(h0, .inr (3, [.long w1_low, .long w1_middle, .long w1_high])), (h1, .inr (3, [.long w0_low, .long w0_middle, .long w0_high]))] := hD
  rw [← hQ]
  exact W.vret hx hb hr (fun t ht hW => ⟨⟨(w1_low, w1_middle, w1_high, w0_low, w0_middle, w0_high), rfl, hw, by rw [ht]; exact hP, va_K.moved hW.alike hK, hD⟩, hS.F ht⟩) hS.2.2 px_d327_58

/-! MatroidDesk$Wide.copy(LMatroidDesk$Wide;)V -/
def w323_wp (post : Int64 → Int64 → Int64 → Int64 → Int64 → Int64 → Prop) (w0_low : Int64) (w0_middle : Int64) (w0_high : Int64) (w1_low : Int64) (w1_middle : Int64) (w1_high : Int64) : Prop := post w1_low w1_middle w1_high w1_low w1_middle w1_high
set_option maxHeartbeats 8000000 in
set_option maxRecDepth 100000 in
theorem w323_met (l : Launch) (dC : Nat → ClassId) (dI : Nat → Nat → Nat) (sz : Nat) (h0 : Nat) (h1 : Nat) (w0_low : Int64) (w0_middle : Int64) (w0_high : Int64) (w1_low : Int64) (w1_middle : Int64) (w1_high : Int64) (post : Int64 → Int64 → Int64 → Int64 → Int64 → Int64 → Prop) (hw : w323_wp post w0_low w0_middle w0_high w1_low w1_middle w1_high) : Met l px_y323 px_s323 ({ frames := 0, cells := 0, slots := 0, locals := 0 }) (va_Pc [.ref h0, .ref h1] (fun U => U.heap.size = sz ∧ va_P (dC, dI) vwCl [(h0, .inr (3, [.long w0_low, .long w0_middle, .long w0_high])), (h1, .inr (3, [.long w1_low, .long w1_middle, .long w1_high]))] U.heap ∧ va_K (dC, dI) vwCl [] U ∧ va_D (fun _ => True) [(h0, .inr (3, [.long w0_low, .long w0_middle, .long w0_high])), (h1, .inr (3, [.long w1_low, .long w1_middle, .long w1_high]))] ∧ px_N U)) (va_Qv (fun (u : Int64 × Int64 × Int64 × Int64 × Int64 × Int64) => post u.1 u.2.1 u.2.2.1 u.2.2.2.1 u.2.2.2.2.1 u.2.2.2.2.2) (fun (u : Int64 × Int64 × Int64 × Int64 × Int64 × Int64) (t : State) => va_P (dC, dI) vwCl [(h0, .inr (3, [.long u.1, .long u.2.1, .long u.2.2.1])), (h1, .inr (3, [.long u.2.2.2.1, .long u.2.2.2.2.1, .long u.2.2.2.2.2]))] t.heap ∧ va_K (dC, dI) vwCl [] t ∧ va_D (va_A [(h0, .inr (3, [.long w0_low, .long w0_middle, .long w0_high])), (h1, .inr (3, [.long w1_low, .long w1_middle, .long w1_high]))] sz) [(h0, .inr (3, [.long u.1, .long u.2.1, .long u.2.2.1])), (h1, .inr (3, [.long u.2.2.2.1, .long u.2.2.2.2.1, .long u.2.2.2.2.2]))]) (va_A [(h0, .inr (3, [.long w0_low, .long w0_middle, .long w0_high])), (h1, .inr (3, [.long w1_low, .long w1_middle, .long w1_high]))] sz)) 0 0 (va_A [(h0, .inr (3, [.long w0_low, .long w0_middle, .long w0_high])), (h1, .inr (3, [.long w1_low, .long w1_middle, .long w1_high]))] sz) := by
  refine Met.ofW (cc := prog_12_method_12_code) (maxL := 2) (ret := none) (by decide) rfl ?_
  intro p e s m args below meth c s₁ B hml hv
  obtain ⟨rfl, hsz, hP, hK, hD0, hN⟩ := hv
  have hx := B.exec
  have hb := B.bytes
  have hr := B.returns
  have htw : ∀ w ∈ px_all, w.before _ s = true := fun w h => atoms_spec (ws := px_s323) B.pre w (List.mem_cons_of_mem _ h)
  have hown : s.vm.findClass "MatroidDesk$Wide" = some m.cls := findClass_of_methodNamed B.named
  have hlocks := B.notSynchronized
  subst hsz
  have hD := hD0.self (sz := s.heap.size)
  generalize hAe : va_A [(h0, .inr (3, [.long w0_low, .long w0_middle, .long w0_high])), (h1, .inr (3, [.long w1_low, .long w1_middle, .long w1_high]))] s.heap.size = A at hD ⊢
  have hA : ∀ q : Nat, s.heap.size ≤ q → A q := fun q h => by rw [← hAe]; exact Or.inr h
  have hS : va_S A s.heap s.heap [] := va_S.rf
  have hP : va_P (dC, dI) vwCl [(h0, .inr (3, [.long w0_low, .long w0_middle, .long w0_high])), (h1, .inr (3, [.long w1_low, .long w1_middle, .long w1_high]))] s.heap := hP
  have hl := lv_entry ([.ref h0, .ref h1]) (n := 2) (Nat.le_of_ble_eq_true rfl)
  rw [lg_entry_eq]
  generalize (lg_sl ([.ref h0, .ref h1]) ++ List.replicate (2 - (lg_sl ([.ref h0, .ref h1])).length) Slot.unset).toArray = ls at hl ⊢
  have hl : lv_has ls 2 [(0, .ref h0), (1, .ref h1)] := hl
  generalize hQ : MQ _ _ _ _ _ _ _ = Q
  unfold w323_wp at hw
  have hS0 := hS
  obtain ⟨H, hH9⟩ : ∃ z, z = s.heap := ⟨_, rfl⟩
  have hP : va_P (dC, dI) vwCl [(h0, .inr (3, [.long w0_low, .long w0_middle, .long w0_high])), (h1, .inr (3, [.long w1_low, .long w1_middle, .long w1_high]))] H := by rw [hH9]; exact hP
  obtain ⟨locs, hlo9⟩ : ∃ z : List Loc, z = [] := ⟨_, rfl⟩
  have hS : va_S A s.heap H locs := by rw [hH9, hlo9]; exact hS
  suffices hG : W p l e (headSpec px_s323 ({ frames := 0, cells := 0, slots := 0, locals := 0 })).room s m ([.ref h0, .ref h1]).toArray below meth c H locs 0 0 Q (F0 m 0 ls []) by rw [hH9, hlo9] at hG; exact hG
  refine lv_aload_n hx hb px_d323_0 rfl (lv_at hl 0 rfl) ?_
  refine lv_aload_n hx hb px_d323_1 rfl (lv_at hl 1 rfl) ?_
  refine va_get (D := (dC, dI)) (ci := 3) (v := .long w1_low) (C := "MatroidDesk$Wide") (T := px_T3) (N := 3) hx hb htw px_in3 hown hK hP 1 rfl rfl 0 (by decide) (htw _ px_w1593) (fun _ h9 => h9) rfl px_d323_2 ?_
  refine va_put (D := (dC, dI)) (ci := 3) (v := .long w1_low) (ty := .long) (C := "MatroidDesk$Wide") (T := px_T3) (N := 3) hx hb htw px_in3 px_ty3 px_tyok3 px_nm3 hown hK hP hD hS 0 rfl rfl 0 (by decide) (htw _ px_w1593) (fun _ h9 => h9) rfl (by decide +kernel) rfl rfl (Nat.le_of_ble_eq_true rfl) px_d323_5 (fun H locs hP hD hS => ?_)
  have hP : va_P (dC, dI) vwCl [(h0, .inr (3, [.long w1_low, .long w0_middle, .long w0_high])), (h1, .inr (3, [.long w1_low, .long w1_middle, .long w1_high]))] H := hP
  have hD : va_D A [(h0, .inr (3, [.long w1_low, .long w0_middle, .long w0_high])), (h1, .inr (3, [.long w1_low, .long w1_middle, .long w1_high]))] := hD
  refine lv_aload_n hx hb px_d323_8 rfl (lv_at hl 0 rfl) ?_
  refine lv_aload_n hx hb px_d323_9 rfl (lv_at hl 1 rfl) ?_
  refine va_get (D := (dC, dI)) (ci := 3) (v := .long w1_middle) (C := "MatroidDesk$Wide") (T := px_T3) (N := 3) hx hb htw px_in3 hown hK hP 1 rfl rfl 1 (by decide) (htw _ px_w1594) (fun _ h9 => h9) rfl px_d323_10 ?_
  refine va_put (D := (dC, dI)) (ci := 3) (v := .long w1_middle) (ty := .long) (C := "MatroidDesk$Wide") (T := px_T3) (N := 3) hx hb htw px_in3 px_ty3 px_tyok3 px_nm3 hown hK hP hD hS 0 rfl rfl 1 (by decide) (htw _ px_w1594) (fun _ h9 => h9) rfl (by decide +kernel) rfl rfl (Nat.le_of_ble_eq_true rfl) px_d323_13 (fun H locs hP hD hS => ?_)
  have hP : va_P (dC, dI) vwCl [(h0, .inr (3, [.long w1_low, .long w1_middle, .long w0_high])), (h1, .inr (3, [.long w1_low, .long w1_middle, .long w1_high]))] H := hP
  have hD : va_D A [(h0, .inr (3, [.long w1_low, .long w1_middle, .long w0_high])), (h1, .inr (3, [.long w1_low, .long w1_middle, .long w1_high]))] := hD
  refine lv_aload_n hx hb px_d323_16 rfl (lv_at hl 0 rfl) ?_
  refine lv_aload_n hx hb px_d323_17 rfl (lv_at hl 1 rfl) ?_
  refine va_get (D := (dC, dI)) (ci := 3) (v := .long w1_high) (C := "MatroidDesk$Wide") (T := px_T3) (N := 3) hx hb htw px_in3 hown hK hP 1 rfl rfl 2 (by decide) (htw _ px_w1595) (fun _ h9 => h9) rfl px_d323_18 ?_
  refine va_put (D := (dC, dI)) (ci := 3) (v := .long w1_high) (ty := .long) (C := "MatroidDesk$Wide") (T := px_T3) (N := 3) hx hb htw px_in3 px_ty3 px_tyok3 px_nm3 hown hK hP hD hS 0 rfl rfl 2 (by decide) (htw _ px_w1595) (fun _ h9 => h9) rfl (by decide +kernel) rfl rfl (Nat.le_of_ble_eq_true rfl) px_d323_21 (fun H locs hP hD hS => ?_)
  have hP : va_P (dC, dI) vwCl [(h0, .inr (3, [.long w1_low, .long w1_middle, .long w1_high])), (h1, .inr (3, [.long w1_low, .long w1_middle, .long w1_high]))] H := hP
  have hD : va_D A [(h0, .inr (3, [.long w1_low, .long w1_middle, .long w1_high])), (h1, .inr (3, [.long w1_low, .long w1_middle, .long w1_high]))] := hD
  rw [← hQ]
  exact W.vret hx hb hr (fun t ht hW => ⟨⟨(w1_low, w1_middle, w1_high, w1_low, w1_middle, w1_high), rfl, hw, by rw [ht]; exact hP, va_K.moved hW.alike hK, hD⟩, hS.F ht⟩) hS.2.2 px_d323_24

/-! MatroidDesk$Wide.compareWith(LMatroidDesk$Wide;)I -/
def w325_L61 (post : Int32 → Int64 → Int64 → Int64 → Int64 → Int64 → Int64 → Prop) (y0 : Int32) (w0_low : Int64) (w0_middle : Int64) (w0_high : Int64) (w1_low : Int64) (w1_middle : Int64) (w1_high : Int64) : Prop := post y0 w0_low w0_middle w0_high w1_low w1_middle w1_high
def w325_wp (post : Int32 → Int64 → Int64 → Int64 → Int64 → Int64 → Int64 → Prop) (w0_low : Int64) (w0_middle : Int64) (w0_high : Int64) (w1_low : Int64) (w1_middle : Int64) (w1_high : Int64) : Prop := ((lg_cmp w0_high w1_high) = 0 → ((lg_cmp w0_middle w1_middle) = 0 → w326_wp (fun r58  => w325_L61 post r58 w0_low w0_middle w0_high w1_low w1_middle w1_high) w0_low w1_low) ∧ (¬ (lg_cmp w0_middle w1_middle) = 0 → w326_wp (fun r44  => w325_L61 post r44 w0_low w0_middle w0_high w1_low w1_middle w1_high) w0_middle w1_middle)) ∧ (¬ (lg_cmp w0_high w1_high) = 0 → w326_wp (fun r20  => post r20 w0_low w0_middle w0_high w1_low w1_middle w1_high) w0_high w1_high)
set_option maxHeartbeats 8000000 in
set_option maxRecDepth 100000 in
theorem w325_met (l : Launch) (dC : Nat → ClassId) (dI : Nat → Nat → Nat) (sz : Nat) (h0 : Nat) (h1 : Nat) (w0_low : Int64) (w0_middle : Int64) (w0_high : Int64) (w1_low : Int64) (w1_middle : Int64) (w1_high : Int64) (post : Int32 → Int64 → Int64 → Int64 → Int64 → Int64 → Int64 → Prop) (hw : w325_wp post w0_low w0_middle w0_high w1_low w1_middle w1_high) : Met l px_y325 px_s325 ({ frames := 1, cells := 0, slots := 0, locals := 23 }) (va_Pc [.ref h0, .ref h1] (fun U => U.heap.size = sz ∧ va_P (dC, dI) vwCl [(h0, .inr (3, [.long w0_low, .long w0_middle, .long w0_high])), (h1, .inr (3, [.long w1_low, .long w1_middle, .long w1_high]))] U.heap ∧ va_K (dC, dI) vwCl [] U ∧ va_D (fun _ => True) [(h0, .inr (3, [.long w0_low, .long w0_middle, .long w0_high])), (h1, .inr (3, [.long w1_low, .long w1_middle, .long w1_high]))] ∧ px_N U)) (va_Qi (fun (r : Int32) (u : Int64 × Int64 × Int64 × Int64 × Int64 × Int64) => post r u.1 u.2.1 u.2.2.1 u.2.2.2.1 u.2.2.2.2.1 u.2.2.2.2.2) (fun (u : Int64 × Int64 × Int64 × Int64 × Int64 × Int64) (t : State) => va_P (dC, dI) vwCl [(h0, .inr (3, [.long u.1, .long u.2.1, .long u.2.2.1])), (h1, .inr (3, [.long u.2.2.2.1, .long u.2.2.2.2.1, .long u.2.2.2.2.2]))] t.heap ∧ va_K (dC, dI) vwCl [] t ∧ va_D (va_A [(h0, .inr (3, [.long w0_low, .long w0_middle, .long w0_high])), (h1, .inr (3, [.long w1_low, .long w1_middle, .long w1_high]))] sz) [(h0, .inr (3, [.long u.1, .long u.2.1, .long u.2.2.1])), (h1, .inr (3, [.long u.2.2.2.1, .long u.2.2.2.2.1, .long u.2.2.2.2.2]))]) (va_A [(h0, .inr (3, [.long w0_low, .long w0_middle, .long w0_high])), (h1, .inr (3, [.long w1_low, .long w1_middle, .long w1_high]))] sz)) 0 0 (va_A [(h0, .inr (3, [.long w0_low, .long w0_middle, .long w0_high])), (h1, .inr (3, [.long w1_low, .long w1_middle, .long w1_high]))] sz) := by
  refine Met.ofW (cc := prog_12_method_13_code) (maxL := 2) (ret := (some .int)) (by decide) rfl ?_
  intro p e s m args below meth c s₁ B hml hv
  obtain ⟨rfl, hsz, hP, hK, hD0, hN⟩ := hv
  have hx := B.exec
  have hb := B.bytes
  have hr := B.returns
  have htw : ∀ w ∈ px_all, w.before _ s = true := fun w h => atoms_spec (ws := px_s325) B.pre w (List.mem_cons_of_mem _ h)
  have hown : s.vm.findClass "MatroidDesk$Wide" = some m.cls := findClass_of_methodNamed B.named
  have hlocks := B.notSynchronized
  subst hsz
  have hD := hD0.self (sz := s.heap.size)
  generalize hAe : va_A [(h0, .inr (3, [.long w0_low, .long w0_middle, .long w0_high])), (h1, .inr (3, [.long w1_low, .long w1_middle, .long w1_high]))] s.heap.size = A at hD ⊢
  have hA : ∀ q : Nat, s.heap.size ≤ q → A q := fun q h => by rw [← hAe]; exact Or.inr h
  have hS : va_S A s.heap s.heap [] := va_S.rf
  have hP : va_P (dC, dI) vwCl [(h0, .inr (3, [.long w0_low, .long w0_middle, .long w0_high])), (h1, .inr (3, [.long w1_low, .long w1_middle, .long w1_high]))] s.heap := hP
  have hl := lv_entry ([.ref h0, .ref h1]) (n := 2) (Nat.le_of_ble_eq_true rfl)
  rw [lg_entry_eq]
  generalize (lg_sl ([.ref h0, .ref h1]) ++ List.replicate (2 - (lg_sl ([.ref h0, .ref h1])).length) Slot.unset).toArray = ls at hl ⊢
  have hl : lv_has ls 2 [(0, .ref h0), (1, .ref h1)] := hl
  generalize hQ : MQ _ _ _ _ _ _ _ = Q
  have S61 : ∀ (y0 : Int32) (w0_low : Int64) (w0_middle : Int64) (w0_high : Int64) (w1_low : Int64) (w1_middle : Int64) (w1_high : Int64) (H : Heap) (locs : List Loc) (ls : Array Slot), va_P (dC, dI) vwCl [(h0, .inr (3, [.long w0_low, .long w0_middle, .long w0_high])), (h1, .inr (3, [.long w1_low, .long w1_middle, .long w1_high]))] H → va_D A [(h0, .inr (3, [.long w0_low, .long w0_middle, .long w0_high])), (h1, .inr (3, [.long w1_low, .long w1_middle, .long w1_high]))] → va_S A s.heap H locs → lv_has ls 2 [(0, .ref h0), (1, .ref h1)] → w325_L61 post y0 w0_low w0_middle w0_high w1_low w1_middle w1_high → W p l e (headSpec px_s325 ({ frames := 1, cells := 0, slots := 0, locals := 23 })).room s m ([.ref h0, .ref h1]).toArray below meth c H locs 0 0 Q (F0 m 61 ls [.int y0]) := by
    intro y0 w0_low w0_middle w0_high w1_low w1_middle w1_high H locs ls hP hD hS hl hw
    unfold w325_L61 at hw
    rw [← hQ]
    exact W.iret (v := y0) hx hb hr (fun t ht hW => ⟨⟨y0, (w0_low, w0_middle, w0_high, w1_low, w1_middle, w1_high), rfl, hw, by rw [ht]; exact hP, va_K.moved hW.alike hK, hD⟩, hS.F ht⟩) hS.2.2 px_d325_61
  unfold w325_wp at hw
  have hS0 := hS
  obtain ⟨H, hH9⟩ : ∃ z, z = s.heap := ⟨_, rfl⟩
  have hP : va_P (dC, dI) vwCl [(h0, .inr (3, [.long w0_low, .long w0_middle, .long w0_high])), (h1, .inr (3, [.long w1_low, .long w1_middle, .long w1_high]))] H := by rw [hH9]; exact hP
  obtain ⟨locs, hlo9⟩ : ∃ z : List Loc, z = [] := ⟨_, rfl⟩
  have hS : va_S A s.heap H locs := by rw [hH9, hlo9]; exact hS
  suffices hG : W p l e (headSpec px_s325 ({ frames := 1, cells := 0, slots := 0, locals := 23 })).room s m ([.ref h0, .ref h1]).toArray below meth c H locs 0 0 Q (F0 m 0 ls []) by rw [hH9, hlo9] at hG; exact hG
  refine lv_aload_n hx hb px_d325_0 rfl (lv_at hl 0 rfl) ?_
  refine va_get (D := (dC, dI)) (ci := 3) (v := .long w0_high) (C := "MatroidDesk$Wide") (T := px_T3) (N := 3) hx hb htw px_in3 hown hK hP 0 rfl rfl 2 (by decide) (htw _ px_w1595) (fun _ h9 => h9) rfl px_d325_1 ?_
  refine lv_aload_n hx hb px_d325_4 rfl (lv_at hl 1 rfl) ?_
  refine va_get (D := (dC, dI)) (ci := 3) (v := .long w1_high) (C := "MatroidDesk$Wide") (T := px_T3) (N := 3) hx hb htw px_in3 hown hK hP 1 rfl rfl 2 (by decide) (htw _ px_w1595) (fun _ h9 => h9) rfl px_d325_5 ?_
  refine W.lcmp hx hb px_d325_8 ?_
  refine lv_if_eq (tgt := 24) hx hb px_d325_9 (by decide) (fun c9 => ?_) (fun c9 => ?_)
  · have hw := hw.1 c9
    refine lv_aload_n hx hb px_d325_24 rfl (lv_at hl 0 rfl) ?_
    refine va_get (D := (dC, dI)) (ci := 3) (v := .long w0_middle) (C := "MatroidDesk$Wide") (T := px_T3) (N := 3) hx hb htw px_in3 hown hK hP 0 rfl rfl 1 (by decide) (htw _ px_w1594) (fun _ h9 => h9) rfl px_d325_25 ?_
    refine lv_aload_n hx hb px_d325_28 rfl (lv_at hl 1 rfl) ?_
    refine va_get (D := (dC, dI)) (ci := 3) (v := .long w1_middle) (C := "MatroidDesk$Wide") (T := px_T3) (N := 3) hx hb htw px_in3 hown hK hP 1 rfl rfl 1 (by decide) (htw _ px_w1594) (fun _ h9 => h9) rfl px_d325_29 ?_
    refine W.lcmp hx hb px_d325_32 ?_
    refine lv_if_eq (tgt := 50) hx hb px_d325_33 (by decide) (fun c33 => ?_) (fun c33 => ?_)
    · have hw := hw.1 c33
      refine lv_aload_n hx hb px_d325_50 rfl (lv_at hl 0 rfl) ?_
      refine va_get (D := (dC, dI)) (ci := 3) (v := .long w0_low) (C := "MatroidDesk$Wide") (T := px_T3) (N := 3) hx hb htw px_in3 hown hK hP 0 rfl rfl 0 (by decide) (htw _ px_w1593) (fun _ h9 => h9) rfl px_d325_51 ?_
      refine lv_aload_n hx hb px_d325_54 rfl (lv_at hl 1 rfl) ?_
      refine va_get (D := (dC, dI)) (ci := 3) (v := .long w1_low) (C := "MatroidDesk$Wide") (T := px_T3) (N := 3) hx hb htw px_in3 hown hK hP 1 rfl rfl 0 (by decide) (htw _ px_w1593) (fun _ h9 => h9) rfl px_d325_55 ?_
      have hPc := hP.sub (ws' := []) [] rfl
      have hDc := hD.sub (ws' := []) [] (by decide) rfl
      have hKc := hK.sub (tys' := []) [] rfl
      have hFc := va_free (wc := []) hD hS hA [] rfl
      refine va_calli (va_runS (As := [.long w0_low, .long w1_low]) (rest := []) ⟨hx, hb, hml, hown, htw⟩ (w326_met l dC dI H.size w0_low w1_low _ hw) (va_cwS 2 htw (px_gs2 px_w1631 px_w1633 px_w1765 px_g326) rfl rfl rfl (by decide +kernel) ⟨Nat.le_of_ble_eq_true rfl, Nat.le_of_ble_eq_true rfl⟩) ⟨fun a U g mk q => by obtain ⟨q0, q1, qP, qK, qD, qN⟩ := q; exact ⟨q0, q1, qP, va_K.moved (u := U) (U := U.calling g mk a) (Vm.Alike.refl U.vm) qK, qD, qN.same rfl⟩, fun U hU hW => ⟨rfl, by rw [hU], by rw [hU]; exact hPc, va_K.moved hW.alike hKc, hDc.weaken (fun _ _ _ _ => trivial), hN.warm hW⟩⟩ rfl rfl hl.1 rfl (lv_room (Nat.le_of_ble_eq_true rfl)) px_d325_58 ⟨(Nat.le_of_ble_eq_true rfl), (Nat.le_of_ble_eq_true rfl)⟩) hS (fun q _ h => hFc q h) hFc (fun r58 u t H1 locs ht hvm hw hB hz1 hk1 hS => ?_)
      obtain ⟨hP1, hK1, hD1⟩ := hB
      rw [ht] at hP1
      have hK1 := va_K.moved hvm.symm hK1
      obtain ⟨hP, hD⟩ := va_join (wr := [(h0, .inr (3, [.long w0_low, .long w0_middle, .long w0_high])), (h1, .inr (3, [.long w1_low, .long w1_middle, .long w1_high]))]) (w1 := []) hP hD [] [0, 1] rfl rfl (by decide) (by decide) hk1 hFc hP1 hD1
      generalize H1 = H at hP hS ⊢
      have hP : va_P (dC, dI) vwCl [(h0, .inr (3, [.long w0_low, .long w0_middle, .long w0_high])), (h1, .inr (3, [.long w1_low, .long w1_middle, .long w1_high]))] H := hP
      have hD : va_D A [(h0, .inr (3, [.long w0_low, .long w0_middle, .long w0_high])), (h1, .inr (3, [.long w1_low, .long w1_middle, .long w1_high]))] := hD
      exact S61 r58 w0_low w0_middle w0_high w1_low w1_middle w1_high H locs ls hP hD hS (lv_sub hl [0, 1] rfl) hw
    · have hw := hw.2 c33
      refine lv_aload_n hx hb px_d325_36 rfl (lv_at hl 0 rfl) ?_
      refine va_get (D := (dC, dI)) (ci := 3) (v := .long w0_middle) (C := "MatroidDesk$Wide") (T := px_T3) (N := 3) hx hb htw px_in3 hown hK hP 0 rfl rfl 1 (by decide) (htw _ px_w1594) (fun _ h9 => h9) rfl px_d325_37 ?_
      refine lv_aload_n hx hb px_d325_40 rfl (lv_at hl 1 rfl) ?_
      refine va_get (D := (dC, dI)) (ci := 3) (v := .long w1_middle) (C := "MatroidDesk$Wide") (T := px_T3) (N := 3) hx hb htw px_in3 hown hK hP 1 rfl rfl 1 (by decide) (htw _ px_w1594) (fun _ h9 => h9) rfl px_d325_41 ?_
      have hPc := hP.sub (ws' := []) [] rfl
      have hDc := hD.sub (ws' := []) [] (by decide) rfl
      have hKc := hK.sub (tys' := []) [] rfl
      have hFc := va_free (wc := []) hD hS hA [] rfl
      refine va_calli (va_runS (As := [.long w0_middle, .long w1_middle]) (rest := []) ⟨hx, hb, hml, hown, htw⟩ (w326_met l dC dI H.size w0_middle w1_middle _ hw) (va_cwS 2 htw (px_gs2 px_w1631 px_w1633 px_w1765 px_g326) rfl rfl rfl (by decide +kernel) ⟨Nat.le_of_ble_eq_true rfl, Nat.le_of_ble_eq_true rfl⟩) ⟨fun a U g mk q => by obtain ⟨q0, q1, qP, qK, qD, qN⟩ := q; exact ⟨q0, q1, qP, va_K.moved (u := U) (U := U.calling g mk a) (Vm.Alike.refl U.vm) qK, qD, qN.same rfl⟩, fun U hU hW => ⟨rfl, by rw [hU], by rw [hU]; exact hPc, va_K.moved hW.alike hKc, hDc.weaken (fun _ _ _ _ => trivial), hN.warm hW⟩⟩ rfl rfl hl.1 rfl (lv_room (Nat.le_of_ble_eq_true rfl)) px_d325_44 ⟨(Nat.le_of_ble_eq_true rfl), (Nat.le_of_ble_eq_true rfl)⟩) hS (fun q _ h => hFc q h) hFc (fun r44 u t H1 locs ht hvm hw hB hz1 hk1 hS => ?_)
      obtain ⟨hP1, hK1, hD1⟩ := hB
      rw [ht] at hP1
      have hK1 := va_K.moved hvm.symm hK1
      obtain ⟨hP, hD⟩ := va_join (wr := [(h0, .inr (3, [.long w0_low, .long w0_middle, .long w0_high])), (h1, .inr (3, [.long w1_low, .long w1_middle, .long w1_high]))]) (w1 := []) hP hD [] [0, 1] rfl rfl (by decide) (by decide) hk1 hFc hP1 hD1
      generalize H1 = H at hP hS ⊢
      have hP : va_P (dC, dI) vwCl [(h0, .inr (3, [.long w0_low, .long w0_middle, .long w0_high])), (h1, .inr (3, [.long w1_low, .long w1_middle, .long w1_high]))] H := hP
      have hD : va_D A [(h0, .inr (3, [.long w0_low, .long w0_middle, .long w0_high])), (h1, .inr (3, [.long w1_low, .long w1_middle, .long w1_high]))] := hD
      refine lv_goto (tgt := 61) hx hb px_d325_47 (by decide) ?_
      exact S61 r44 w0_low w0_middle w0_high w1_low w1_middle w1_high H locs ls hP hD hS (lv_sub hl [0, 1] rfl) hw
  · have hw := hw.2 c9
    refine lv_aload_n hx hb px_d325_12 rfl (lv_at hl 0 rfl) ?_
    refine va_get (D := (dC, dI)) (ci := 3) (v := .long w0_high) (C := "MatroidDesk$Wide") (T := px_T3) (N := 3) hx hb htw px_in3 hown hK hP 0 rfl rfl 2 (by decide) (htw _ px_w1595) (fun _ h9 => h9) rfl px_d325_13 ?_
    refine lv_aload_n hx hb px_d325_16 rfl (lv_at hl 1 rfl) ?_
    refine va_get (D := (dC, dI)) (ci := 3) (v := .long w1_high) (C := "MatroidDesk$Wide") (T := px_T3) (N := 3) hx hb htw px_in3 hown hK hP 1 rfl rfl 2 (by decide) (htw _ px_w1595) (fun _ h9 => h9) rfl px_d325_17 ?_
    have hPc := hP.sub (ws' := []) [] rfl
    have hDc := hD.sub (ws' := []) [] (by decide) rfl
    have hKc := hK.sub (tys' := []) [] rfl
    have hFc := va_free (wc := []) hD hS hA [] rfl
    refine va_calli (va_runS (As := [.long w0_high, .long w1_high]) (rest := []) ⟨hx, hb, hml, hown, htw⟩ (w326_met l dC dI H.size w0_high w1_high _ hw) (va_cwS 2 htw (px_gs2 px_w1631 px_w1633 px_w1765 px_g326) rfl rfl rfl (by decide +kernel) ⟨Nat.le_of_ble_eq_true rfl, Nat.le_of_ble_eq_true rfl⟩) ⟨fun a U g mk q => by obtain ⟨q0, q1, qP, qK, qD, qN⟩ := q; exact ⟨q0, q1, qP, va_K.moved (u := U) (U := U.calling g mk a) (Vm.Alike.refl U.vm) qK, qD, qN.same rfl⟩, fun U hU hW => ⟨rfl, by rw [hU], by rw [hU]; exact hPc, va_K.moved hW.alike hKc, hDc.weaken (fun _ _ _ _ => trivial), hN.warm hW⟩⟩ rfl rfl hl.1 rfl (lv_room (Nat.le_of_ble_eq_true rfl)) px_d325_20 ⟨(Nat.le_of_ble_eq_true rfl), (Nat.le_of_ble_eq_true rfl)⟩) hS (fun q _ h => hFc q h) hFc (fun r20 u t H1 locs ht hvm hw hB hz1 hk1 hS => ?_)
    obtain ⟨hP1, hK1, hD1⟩ := hB
    rw [ht] at hP1
    have hK1 := va_K.moved hvm.symm hK1
    obtain ⟨hP, hD⟩ := va_join (wr := [(h0, .inr (3, [.long w0_low, .long w0_middle, .long w0_high])), (h1, .inr (3, [.long w1_low, .long w1_middle, .long w1_high]))]) (w1 := []) hP hD [] [0, 1] rfl rfl (by decide) (by decide) hk1 hFc hP1 hD1
    generalize H1 = H at hP hS ⊢
    have hP : va_P (dC, dI) vwCl [(h0, .inr (3, [.long w0_low, .long w0_middle, .long w0_high])), (h1, .inr (3, [.long w1_low, .long w1_middle, .long w1_high]))] H := hP
    have hD : va_D A [(h0, .inr (3, [.long w0_low, .long w0_middle, .long w0_high])), (h1, .inr (3, [.long w1_low, .long w1_middle, .long w1_high]))] := hD
    rw [← hQ]
    exact W.iret (v := r20) hx hb hr (fun t ht hW => ⟨⟨r20, (w0_low, w0_middle, w0_high, w1_low, w1_middle, w1_high), rfl, hw, by rw [ht]; exact hP, va_K.moved hW.alike hK, hD⟩, hS.F ht⟩) hS.2.2 px_d325_23

/-! MatroidDesk$Wide.subtract(LMatroidDesk$Wide;)V -/
def w328_wp (post : Int64 → Int64 → Int64 → Int64 → Int64 → Int64 → Prop) (w0_low : Int64) (w0_middle : Int64) (w0_high : Int64) (w1_low : Int64) (w1_middle : Int64) (w1_high : Int64) : Prop := ∀ z1 : Int64, z1 = w0_low - w1_low → ∀ z2 : Int64, z2 = (w0_middle - w1_middle) + ((z1 : Int64) >>> ((48 : Int32).toInt64 &&& 63)) → ∀ z3 : Int64, z3 = z1 &&& 281474976710655 → ∀ z4 : Int64, z4 = z2 &&& 281474976710655 → ∀ z5 : Int64, z5 = (w0_high - w1_high) + ((z2 : Int64) >>> ((48 : Int32).toInt64 &&& 63)) → post z3 z4 z5 w1_low w1_middle w1_high
set_option maxHeartbeats 8000000 in
set_option maxRecDepth 100000 in
theorem w328_met (l : Launch) (dC : Nat → ClassId) (dI : Nat → Nat → Nat) (sz : Nat) (h0 : Nat) (h1 : Nat) (w0_low : Int64) (w0_middle : Int64) (w0_high : Int64) (w1_low : Int64) (w1_middle : Int64) (w1_high : Int64) (post : Int64 → Int64 → Int64 → Int64 → Int64 → Int64 → Prop) (hw : w328_wp post w0_low w0_middle w0_high w1_low w1_middle w1_high) : Met l px_y328 px_s328 ({ frames := 0, cells := 0, slots := 0, locals := 0 }) (va_Pc [.ref h0, .ref h1] (fun U => U.heap.size = sz ∧ va_P (dC, dI) vwCl [(h0, .inr (3, [.long w0_low, .long w0_middle, .long w0_high])), (h1, .inr (3, [.long w1_low, .long w1_middle, .long w1_high]))] U.heap ∧ va_K (dC, dI) vwCl [] U ∧ va_D (fun _ => True) [(h0, .inr (3, [.long w0_low, .long w0_middle, .long w0_high])), (h1, .inr (3, [.long w1_low, .long w1_middle, .long w1_high]))] ∧ px_N U)) (va_Qv (fun (u : Int64 × Int64 × Int64 × Int64 × Int64 × Int64) => post u.1 u.2.1 u.2.2.1 u.2.2.2.1 u.2.2.2.2.1 u.2.2.2.2.2) (fun (u : Int64 × Int64 × Int64 × Int64 × Int64 × Int64) (t : State) => va_P (dC, dI) vwCl [(h0, .inr (3, [.long u.1, .long u.2.1, .long u.2.2.1])), (h1, .inr (3, [.long u.2.2.2.1, .long u.2.2.2.2.1, .long u.2.2.2.2.2]))] t.heap ∧ va_K (dC, dI) vwCl [] t ∧ va_D (va_A [(h0, .inr (3, [.long w0_low, .long w0_middle, .long w0_high])), (h1, .inr (3, [.long w1_low, .long w1_middle, .long w1_high]))] sz) [(h0, .inr (3, [.long u.1, .long u.2.1, .long u.2.2.1])), (h1, .inr (3, [.long u.2.2.2.1, .long u.2.2.2.2.1, .long u.2.2.2.2.2]))]) (va_A [(h0, .inr (3, [.long w0_low, .long w0_middle, .long w0_high])), (h1, .inr (3, [.long w1_low, .long w1_middle, .long w1_high]))] sz)) 0 0 (va_A [(h0, .inr (3, [.long w0_low, .long w0_middle, .long w0_high])), (h1, .inr (3, [.long w1_low, .long w1_middle, .long w1_high]))] sz) := by
  refine Met.ofW (cc := prog_12_method_14_code) (maxL := 6) (ret := none) (by decide) rfl ?_
  intro p e s m args below meth c s₁ B hml hv
  obtain ⟨rfl, hsz, hP, hK, hD0, hN⟩ := hv
  have hx := B.exec
  have hb := B.bytes
  have hr := B.returns
  have htw : ∀ w ∈ px_all, w.before _ s = true := fun w h => atoms_spec (ws := px_s328) B.pre w (List.mem_cons_of_mem _ h)
  have hown : s.vm.findClass "MatroidDesk$Wide" = some m.cls := findClass_of_methodNamed B.named
  have hlocks := B.notSynchronized
  subst hsz
  have hD := hD0.self (sz := s.heap.size)
  generalize hAe : va_A [(h0, .inr (3, [.long w0_low, .long w0_middle, .long w0_high])), (h1, .inr (3, [.long w1_low, .long w1_middle, .long w1_high]))] s.heap.size = A at hD ⊢
  have hA : ∀ q : Nat, s.heap.size ≤ q → A q := fun q h => by rw [← hAe]; exact Or.inr h
  have hS : va_S A s.heap s.heap [] := va_S.rf
  have hP : va_P (dC, dI) vwCl [(h0, .inr (3, [.long w0_low, .long w0_middle, .long w0_high])), (h1, .inr (3, [.long w1_low, .long w1_middle, .long w1_high]))] s.heap := hP
  have hl := lv_entry ([.ref h0, .ref h1]) (n := 6) (Nat.le_of_ble_eq_true rfl)
  rw [lg_entry_eq]
  generalize (lg_sl ([.ref h0, .ref h1]) ++ List.replicate (6 - (lg_sl ([.ref h0, .ref h1])).length) Slot.unset).toArray = ls at hl ⊢
  have hl : lv_has ls 6 [(0, .ref h0), (1, .ref h1)] := hl
  generalize hQ : MQ _ _ _ _ _ _ _ = Q
  unfold w328_wp at hw
  have hS0 := hS
  obtain ⟨H, hH9⟩ : ∃ z, z = s.heap := ⟨_, rfl⟩
  have hP : va_P (dC, dI) vwCl [(h0, .inr (3, [.long w0_low, .long w0_middle, .long w0_high])), (h1, .inr (3, [.long w1_low, .long w1_middle, .long w1_high]))] H := by rw [hH9]; exact hP
  obtain ⟨locs, hlo9⟩ : ∃ z : List Loc, z = [] := ⟨_, rfl⟩
  have hS : va_S A s.heap H locs := by rw [hH9, hlo9]; exact hS
  suffices hG : W p l e (headSpec px_s328 ({ frames := 0, cells := 0, slots := 0, locals := 0 })).room s m ([.ref h0, .ref h1]).toArray below meth c H locs 0 0 Q (F0 m 0 ls []) by rw [hH9, hlo9] at hG; exact hG
  refine lv_aload_n hx hb px_d328_0 rfl (lv_at hl 0 rfl) ?_
  refine va_get (D := (dC, dI)) (ci := 3) (v := .long w0_low) (C := "MatroidDesk$Wide") (T := px_T3) (N := 3) hx hb htw px_in3 hown hK hP 0 rfl rfl 0 (by decide) (htw _ px_w1593) (fun _ h9 => h9) rfl px_d328_1 ?_
  refine lv_aload_n hx hb px_d328_4 rfl (lv_at hl 1 rfl) ?_
  refine va_get (D := (dC, dI)) (ci := 3) (v := .long w1_low) (C := "MatroidDesk$Wide") (T := px_T3) (N := 3) hx hb htw px_in3 hown hK hP 1 rfl rfl 0 (by decide) (htw _ px_w1593) (fun _ h9 => h9) rfl px_d328_5 ?_
  refine lv_lsub hx hb px_d328_8 ?_
  refine lv_topl (fun z1 ez1 => ?_)
  have hw := hw z1 ez1
  refine lv_lstore_n (lv' := [(2, .long z1), (0, .ref h0), (1, .ref h1)]) hx hb px_d328_9 rfl hl (by decide) rfl (fun ls hl => ?_)
  refine lv_aload_n hx hb px_d328_10 rfl (lv_at hl 1 rfl) ?_
  refine va_get (D := (dC, dI)) (ci := 3) (v := .long w0_middle) (C := "MatroidDesk$Wide") (T := px_T3) (N := 3) hx hb htw px_in3 hown hK hP 0 rfl rfl 1 (by decide) (htw _ px_w1594) (fun _ h9 => h9) rfl px_d328_11 ?_
  refine lv_aload_n hx hb px_d328_14 rfl (lv_at hl 2 rfl) ?_
  refine va_get (D := (dC, dI)) (ci := 3) (v := .long w1_middle) (C := "MatroidDesk$Wide") (T := px_T3) (N := 3) hx hb htw px_in3 hown hK hP 1 rfl rfl 1 (by decide) (htw _ px_w1594) (fun _ h9 => h9) rfl px_d328_15 ?_
  refine lv_lsub hx hb px_d328_18 ?_
  refine lv_lload_n hx hb px_d328_19 rfl (lv_at hl 0 rfl) ?_
  refine lv_bipush (v := 48) hx hb px_d328_20 (by decide) ?_
  refine lv_lshr (v := (z1 : Int64) >>> ((48 : Int32).toInt64 &&& 63)) hx hb px_d328_22 rfl ?_
  refine lv_ladd hx hb px_d328_23 ?_
  refine lv_topl (fun z2 ez2 => ?_)
  have hw := hw z2 ez2
  refine lv_lstore (lv' := [(4, .long z2), (2, .long z1), (0, .ref h0), (1, .ref h1)]) hx hb px_d328_24 hl (by decide) rfl (fun ls hl => ?_)
  refine lv_aload_n hx hb px_d328_26 rfl (lv_at hl 2 rfl) ?_
  refine lv_lload_n hx hb px_d328_27 rfl (lv_at hl 1 rfl) ?_
  refine lv_ldc2 hx hb (own := "MatroidDesk$Wide") (index := 9) (v := 281474976710655) hown (htw _ px_w1592) px_d328_28 ?_
  refine lv_land hx hb px_d328_31 ?_
  refine lv_topl (fun z3 ez3 => ?_)
  have hw := hw z3 ez3
  refine va_put (D := (dC, dI)) (ci := 3) (v := .long z3) (ty := .long) (C := "MatroidDesk$Wide") (T := px_T3) (N := 3) hx hb htw px_in3 px_ty3 px_tyok3 px_nm3 hown hK hP hD hS 0 rfl rfl 0 (by decide) (htw _ px_w1593) (fun _ h9 => h9) rfl (by decide +kernel) rfl rfl (Nat.le_of_ble_eq_true rfl) px_d328_32 (fun H locs hP hD hS => ?_)
  have hP : va_P (dC, dI) vwCl [(h0, .inr (3, [.long z3, .long w0_middle, .long w0_high])), (h1, .inr (3, [.long w1_low, .long w1_middle, .long w1_high]))] H := hP
  have hD : va_D A [(h0, .inr (3, [.long z3, .long w0_middle, .long w0_high])), (h1, .inr (3, [.long w1_low, .long w1_middle, .long w1_high]))] := hD
  refine lv_aload_n hx hb px_d328_35 rfl (lv_at hl 2 rfl) ?_
  refine lv_lload hx hb px_d328_36 (lv_at hl 0 rfl) ?_
  refine lv_ldc2 hx hb (own := "MatroidDesk$Wide") (index := 9) (v := 281474976710655) hown (htw _ px_w1592) px_d328_38 ?_
  refine lv_land hx hb px_d328_41 ?_
  refine lv_topl (fun z4 ez4 => ?_)
  have hw := hw z4 ez4
  refine va_put (D := (dC, dI)) (ci := 3) (v := .long z4) (ty := .long) (C := "MatroidDesk$Wide") (T := px_T3) (N := 3) hx hb htw px_in3 px_ty3 px_tyok3 px_nm3 hown hK hP hD hS 0 rfl rfl 1 (by decide) (htw _ px_w1594) (fun _ h9 => h9) rfl (by decide +kernel) rfl rfl (Nat.le_of_ble_eq_true rfl) px_d328_42 (fun H locs hP hD hS => ?_)
  have hP : va_P (dC, dI) vwCl [(h0, .inr (3, [.long z3, .long z4, .long w0_high])), (h1, .inr (3, [.long w1_low, .long w1_middle, .long w1_high]))] H := hP
  have hD : va_D A [(h0, .inr (3, [.long z3, .long z4, .long w0_high])), (h1, .inr (3, [.long w1_low, .long w1_middle, .long w1_high]))] := hD
  refine lv_aload_n hx hb px_d328_45 rfl (lv_at hl 2 rfl) ?_
  refine lv_aload_n hx hb px_d328_46 rfl (lv_at hl 2 rfl) ?_
  refine va_get (D := (dC, dI)) (ci := 3) (v := .long w0_high) (C := "MatroidDesk$Wide") (T := px_T3) (N := 3) hx hb htw px_in3 hown hK hP 0 rfl rfl 2 (by decide) (htw _ px_w1595) (fun _ h9 => h9) rfl px_d328_47 ?_
  refine lv_aload_n hx hb px_d328_50 rfl (lv_at hl 3 rfl) ?_
  refine va_get (D := (dC, dI)) (ci := 3) (v := .long w1_high) (C := "MatroidDesk$Wide") (T := px_T3) (N := 3) hx hb htw px_in3 hown hK hP 1 rfl rfl 2 (by decide) (htw _ px_w1595) (fun _ h9 => h9) rfl px_d328_51 ?_
  refine lv_lsub hx hb px_d328_54 ?_
  refine lv_lload hx hb px_d328_55 (lv_at hl 0 rfl) ?_
  refine lv_bipush (v := 48) hx hb px_d328_57 (by decide) ?_
  refine lv_lshr (v := (z2 : Int64) >>> ((48 : Int32).toInt64 &&& 63)) hx hb px_d328_59 rfl ?_
  refine lv_ladd hx hb px_d328_60 ?_
  refine lv_topl (fun z5 ez5 => ?_)
  have hw := hw z5 ez5
  refine va_put (D := (dC, dI)) (ci := 3) (v := .long z5) (ty := .long) (C := "MatroidDesk$Wide") (T := px_T3) (N := 3) hx hb htw px_in3 px_ty3 px_tyok3 px_nm3 hown hK hP hD hS 0 rfl rfl 2 (by decide) (htw _ px_w1595) (fun _ h9 => h9) rfl (by decide +kernel) rfl rfl (Nat.le_of_ble_eq_true rfl) px_d328_61 (fun H locs hP hD hS => ?_)
  have hP : va_P (dC, dI) vwCl [(h0, .inr (3, [.long z3, .long z4, .long z5])), (h1, .inr (3, [.long w1_low, .long w1_middle, .long w1_high]))] H := hP
  have hD : va_D A [(h0, .inr (3, [.long z3, .long z4, .long z5])), (h1, .inr (3, [.long w1_low, .long w1_middle, .long w1_high]))] := hD
  rw [← hQ]
  exact W.vret hx hb hr (fun t ht hW => ⟨⟨(z3, z4, z5, w1_low, w1_middle, w1_high), rfl, hw, by rw [ht]; exact hP, va_K.moved hW.alike hK, hD⟩, hS.F ht⟩) hS.2.2 px_d328_64

