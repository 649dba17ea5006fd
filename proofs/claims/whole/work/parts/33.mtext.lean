def mva_L72 (post : Int32 → (Nat → Int32) → (Nat → Int32) → Prop) (x1 : Int32) (x2 : Int32) (y0 : Int32) (iv : Nat → Int32) (g_text : Nat → Int32) : Prop := post y0 iv g_text
def mva_L45 (K7 : Int32 → Int32 → (Nat → Int32) → (Nat → Int32) → Prop) (post : Int32 → (Nat → Int32) → (Nat → Int32) → Prop) (x1 : Int32) (x2 : Int32) (y0 : Int32) (iv : Nat → Int32) (g_text : Nat → Int32) : Prop := ∀ z1 : Int32, z1 = x2 + 1 → K7 y0 z1 iv g_text
def mva_L7 (post : Int32 → (Nat → Int32) → (Nat → Int32) → Prop) : Nat → Int32 → Int32 → (Nat → Int32) → (Nat → Int32) → Prop
  | 0 => fun _ _ _ _ => False
  | k + 1 => fun x1 x2 iv g_text => ((iv 40) ≤ x2 → vp_in (iv 39) 16384 ∧ ((¬ (g_text (Int32.toNatClampNeg (iv 39))) = 45 → mva_L72 post x1 x2 x1 iv g_text) ∧ ((g_text (Int32.toNatClampNeg (iv 39))) = 45 → mva_L72 post x1 x2 (-x1) iv g_text))) ∧ (¬ (iv 40) ≤ x2 → vp_in x2 16384 ∧ (mid_wp (fun r21  => (r21 = 0 → mva_L45 (mva_L7 post k) post x1 x2 x1 iv g_text) ∧ (¬ r21 = 0 → vp_in x2 16384 ∧ (mva_L45 (mva_L7 post k) post x1 x2 (((10 * x1) + (g_text (Int32.toNatClampNeg x2))) - 48) iv g_text))) (g_text (Int32.toNatClampNeg x2))))
def mva_wp (post : Int32 → (Nat → Int32) → (Nat → Int32) → Prop) (iv : Nat → Int32) (g_text : Nat → Int32) : Prop := ∀ z2 : Int32, z2 = iv 39 → ∃ j7, mva_L7 post j7 0 z2 iv g_text
set_option maxHeartbeats 8000000 in
set_option maxRecDepth 100000 in
theorem mva_met (l : Launch) (dC : Nat → ClassId) (dI : Nat → Nat → Nat) (sz : Nat) (h0 : Nat) (rf : Nat → Nat) (c_text : ClassId) (iv : Nat → Int32) (g_text : Nat → Int32) (post : Int32 → (Nat → Int32) → (Nat → Int32) → Prop) (hw : mva_wp post iv g_text) : Met l px_y26 px_s26 ({ frames := 1, cells := 0, slots := 0, locals := 20 }) (va_Pc [.ref h0] (fun U => U.heap.size = sz ∧ va_P (dC, dI) vwCl [(h0, .inr (8, px_mf rf iv)), (rf 36, .inl (c_text, 16384, .inl g_text))] U.heap ∧ va_K (dC, dI) vwCl [(c_text, .byte)] U ∧ va_D (fun _ => True) [(h0, .inr (8, px_mf rf iv)), (rf 36, .inl (c_text, 16384, .inl g_text))] ∧ px_N U)) (va_Qi (fun (r : Int32) (u : (Nat → Int32) × (Nat → Int32)) => post r u.1 u.2) (fun (u : (Nat → Int32) × (Nat → Int32)) (t : State) => va_P (dC, dI) vwCl [(h0, .inr (8, px_mf rf u.1)), (rf 36, .inl (c_text, 16384, .inl u.2))] t.heap ∧ va_K (dC, dI) vwCl [(c_text, .byte)] t ∧ va_D (va_A [(h0, .inr (8, px_mf rf iv)), (rf 36, .inl (c_text, 16384, .inl g_text))] sz) [(h0, .inr (8, px_mf rf u.1)), (rf 36, .inl (c_text, 16384, .inl u.2))]) (va_A [(h0, .inr (8, px_mf rf iv)), (rf 36, .inl (c_text, 16384, .inl g_text))] sz)) 0 0 (va_A [(h0, .inr (8, px_mf rf iv)), (rf 36, .inl (c_text, 16384, .inl g_text))] sz) := by
  refine Met.ofW (cc := prog_15_method_54_code) (maxL := 3) (ret := (some .int)) (by decide) rfl ?_
  intro p e s m args below meth c s₁ B hml hv
  obtain ⟨rfl, hsz, hP, hK, hD0, hN⟩ := hv
  have hx := B.exec
  have hb := B.bytes
  have hr := B.returns
  have htw : ∀ w ∈ px_all, w.before _ s = true := fun w h => atoms_spec (ws := px_s26) B.pre w (List.mem_cons_of_mem _ h)
  have hown : s.vm.findClass "MatroidDeskModel" = some m.cls := findClass_of_methodNamed B.named
  have hlocks := B.notSynchronized
  subst hsz
  have hD := hD0.self (sz := s.heap.size)
  generalize hAe : va_A [(h0, .inr (8, px_mf rf iv)), (rf 36, .inl (c_text, 16384, .inl g_text))] s.heap.size = A at hD ⊢
  have hA : ∀ q : Nat, s.heap.size ≤ q → A q := fun q h => by rw [← hAe]; exact Or.inr h
  have hS : va_S A s.heap s.heap [] := va_S.rf
  have hP : va_P (dC, dI) vwCl [(h0, .inr (8, px_mf rf iv)), (rf 36, .inl (c_text, 16384, .inl g_text))] s.heap := hP
  have hl := lv_entry ([.ref h0]) (n := 3) (Nat.le_of_ble_eq_true rfl)
  rw [lg_entry_eq]
  generalize (lg_sl ([.ref h0]) ++ List.replicate (3 - (lg_sl ([.ref h0])).length) Slot.unset).toArray = ls at hl ⊢
  have hl : lv_has ls 3 [(0, .ref h0)] := hl
  generalize hQ : MQ _ _ _ _ _ _ _ = Q
  have S72 : ∀ (x1 : Int32) (x2 : Int32) (y0 : Int32) (iv : Nat → Int32) (g_text : Nat → Int32) (H : Heap) (locs : List Loc) (ls : Array Slot), va_P (dC, dI) vwCl [(h0, .inr (8, px_mf rf iv)), (rf 36, .inl (c_text, 16384, .inl g_text))] H → va_D A [(h0, .inr (8, px_mf rf iv)), (rf 36, .inl (c_text, 16384, .inl g_text))] → va_S A s.heap H locs → lv_has ls 3 [(0, .ref h0), (1, .int x1), (2, .int x2)] → mva_L72 post x1 x2 y0 iv g_text → W p l e (headSpec px_s26 ({ frames := 1, cells := 0, slots := 0, locals := 20 })).room s m ([.ref h0]).toArray below meth c H locs 0 0 Q (F0 m 72 ls [.int y0]) := by
    intro x1 x2 y0 iv g_text H locs ls hP hD hS hl hw
    unfold mva_L72 at hw
    rw [← hQ]
    exact W.iret (v := y0) hx hb hr (fun t ht hW => ⟨⟨y0, (iv, g_text), rfl, hw, by rw [ht]; exact hP, va_K.moved hW.alike hK, hD⟩, hS.F ht⟩) hS.2.2 px_d26_72
  have S7 : ∀ (k7 : Nat) (x1 : Int32) (x2 : Int32) (iv : Nat → Int32) (g_text : Nat → Int32) (H : Heap) (locs : List Loc) (ls : Array Slot), va_P (dC, dI) vwCl [(h0, .inr (8, px_mf rf iv)), (rf 36, .inl (c_text, 16384, .inl g_text))] H → va_D A [(h0, .inr (8, px_mf rf iv)), (rf 36, .inl (c_text, 16384, .inl g_text))] → va_S A s.heap H locs → lv_has ls 3 [(0, .ref h0), (1, .int x1), (2, .int x2)] → mva_L7 post k7 x1 x2 iv g_text → W p l e (headSpec px_s26 ({ frames := 1, cells := 0, slots := 0, locals := 20 })).room s m ([.ref h0]).toArray below meth c H locs 0 0 Q (F0 m 7 ls []) := by
    intro k7
    induction k7 with
    | zero => intro x1 x2 iv g_text H locs ls hP hD hS hl hw; exact False.elim hw
    | succ k7 ih7 =>
      have S45 : ∀ (x1 : Int32) (x2 : Int32) (y0 : Int32) (iv : Nat → Int32) (g_text : Nat → Int32) (H : Heap) (locs : List Loc) (ls : Array Slot), va_P (dC, dI) vwCl [(h0, .inr (8, px_mf rf iv)), (rf 36, .inl (c_text, 16384, .inl g_text))] H → va_D A [(h0, .inr (8, px_mf rf iv)), (rf 36, .inl (c_text, 16384, .inl g_text))] → va_S A s.heap H locs → lv_has ls 3 [(0, .ref h0), (1, .int x1), (2, .int x2)] → mva_L45 (mva_L7 post k7) post x1 x2 y0 iv g_text → W p l e (headSpec px_s26 ({ frames := 1, cells := 0, slots := 0, locals := 20 })).room s m ([.ref h0]).toArray below meth c H locs 0 0 Q (F0 m 45 ls [.int y0]) := by
        intro x1 x2 y0 iv g_text H locs ls hP hD hS hl hw
        unfold mva_L45 at hw
        refine lv_istore_n (lv' := [(1, .int y0), (0, .ref h0), (2, .int x2)]) hx hb px_d26_45 rfl hl (by decide) rfl (fun ls hl => ?_)
        obtain ⟨z1, ez1⟩ : ∃ y : Int32, y = x2 + 1 := ⟨_, rfl⟩
        have hw := hw z1 ez1
        refine lv_iinc (v := z1) (lv' := [(2, .int z1), (1, .int y0), (0, .ref h0)]) hx hb px_d26_46 hl (k := 2) rfl (by rw [ez1]; rfl) (by decide) rfl (fun ls hl => ?_)
        refine lv_goto (tgt := 7) hx hb px_d26_49 (by decide) ?_
        exact ih7 y0 z1 iv g_text H locs ls hP hD hS (lv_sub hl [2, 1, 0] rfl) hw
      intro x1 x2 iv g_text H locs ls hP hD hS hl hw
      unfold mva_L7 at hw
      refine lv_iload_n hx hb px_d26_7 rfl (lv_at hl 2 rfl) ?_
      refine lv_aload_n hx hb px_d26_8 rfl (lv_at hl 0 rfl) ?_
      refine va_get (D := (dC, dI)) (ci := 8) (v := .int (iv 40)) (C := "MatroidDeskModel") (T := px_T8) (N := 53) hx hb htw px_in8 hown hK hP 0 rfl rfl 40 (by decide) (htw _ px_w328) (fun _ h9 => h9) rfl px_d26_9 ?_
      refine lv_icmp_ge (tgt := 52) hx hb px_d26_12 (by decide) (fun c12 => ?_) (fun c12 => ?_)
      · have hw := hw.1 c12
        refine lv_aload_n hx hb px_d26_52 rfl (lv_at hl 0 rfl) ?_
        refine va_get (D := (dC, dI)) (ci := 8) (v := .ref (rf 36)) (C := "MatroidDeskModel") (T := px_T8) (N := 53) hx hb htw px_in8 hown hK hP 0 rfl rfl 36 (by decide) (htw _ px_w320) (fun _ h9 => h9) rfl px_d26_53 ?_
        refine lv_aload_n hx hb px_d26_56 rfl (lv_at hl 0 rfl) ?_
        refine va_get (D := (dC, dI)) (ci := 8) (v := .int (iv 39)) (C := "MatroidDeskModel") (T := px_T8) (N := 53) hx hb htw px_in8 hown hK hP 0 rfl rfl 39 (by decide) (htw _ px_w330) (fun _ h9 => h9) rfl px_d26_57 ?_
        obtain ⟨hi60, hw⟩ := hw
        refine va_bald hx hb hK hP 1 0 rfl rfl hi60 px_d26_60 ?_
        refine lv_bipush (v := 45) hx hb px_d26_61 (by decide) ?_
        refine lv_icmp_ne (tgt := 71) hx hb px_d26_63 (by decide) (fun c63 => ?_) (fun c63 => ?_)
        · have hw := hw.1 c63
          refine lv_iload_n hx hb px_d26_71 rfl (lv_at hl 1 rfl) ?_
          exact S72 x1 x2 x1 iv g_text H locs ls hP hD hS (lv_sub hl [0, 1, 2] rfl) hw
        · have hw := hw.2 c63
          refine lv_iload_n hx hb px_d26_66 rfl (lv_at hl 1 rfl) ?_
          refine lv_ineg hx hb px_d26_67 ?_
          refine lv_goto (tgt := 72) hx hb px_d26_68 (by decide) ?_
          exact S72 x1 x2 (-x1) iv g_text H locs ls hP hD hS (lv_sub hl [0, 1, 2] rfl) hw
      · have hw := hw.2 c12
        refine lv_aload_n hx hb px_d26_15 rfl (lv_at hl 0 rfl) ?_
        refine va_get (D := (dC, dI)) (ci := 8) (v := .ref (rf 36)) (C := "MatroidDeskModel") (T := px_T8) (N := 53) hx hb htw px_in8 hown hK hP 0 rfl rfl 36 (by decide) (htw _ px_w320) (fun _ h9 => h9) rfl px_d26_16 ?_
        refine lv_iload_n hx hb px_d26_19 rfl (lv_at hl 2 rfl) ?_
        obtain ⟨hi20, hw⟩ := hw
        refine va_bald hx hb hK hP 1 0 rfl rfl hi20 px_d26_20 ?_
        have hPc := hP.sub (ws' := []) [] rfl
        have hDc := hD.sub (ws' := []) [] (by decide) rfl
        have hKc := hK.sub (tys' := []) [] rfl
        have hFc := va_free (wc := []) hD hS hA [] rfl
        refine va_calli (va_runS (As := [.int (g_text (Int32.toNatClampNeg x2))]) (rest := []) ⟨hx, hb, hml, hown, htw⟩ (mid_met l dC dI H.size (g_text (Int32.toNatClampNeg x2)) _ hw) (cwS 1 htw (px_gs px_w333 px_w324 px_w94 px_g24) rfl rfl rfl (by decide +kernel) ⟨Nat.le_of_ble_eq_true rfl, Nat.le_of_ble_eq_true rfl⟩) ⟨fun a U g mk q => by obtain ⟨q0, q1, qP, qK, qD, qN⟩ := q; exact ⟨q0, q1, qP, va_K.moved (u := U) (U := U.calling g mk a) (Vm.Alike.refl U.vm) qK, qD, qN.same rfl⟩, fun U hU hW => ⟨rfl, by rw [hU], by rw [hU]; exact hPc, va_K.moved hW.alike hKc, hDc.weaken (fun _ _ _ _ => trivial), hN.warm hW⟩⟩ rfl rfl hl.1 rfl (lv_room (Nat.le_of_ble_eq_true rfl)) px_d26_21 ⟨(Nat.le_of_ble_eq_true rfl), (Nat.le_of_ble_eq_true rfl)⟩) hS (fun q _ h => hFc q h) hFc (fun r21 u t H1 locs ht hvm hw hB hz1 hk1 hS => ?_)
        obtain ⟨hP1, hK1, hD1⟩ := hB
        rw [ht] at hP1
        have hK1 := va_K.moved hvm.symm hK1
        obtain ⟨hP, hD⟩ := va_join (wr := [(h0, .inr (8, px_mf rf iv)), (rf 36, .inl (c_text, 16384, .inl g_text))]) (w1 := []) hP hD [] [0, 1] rfl rfl (by decide) (by decide) hk1 hFc hP1 hD1
        generalize H1 = H at hP hS ⊢
        have hP : va_P (dC, dI) vwCl [(h0, .inr (8, px_mf rf iv)), (rf 36, .inl (c_text, 16384, .inl g_text))] H := hP
        have hD : va_D A [(h0, .inr (8, px_mf rf iv)), (rf 36, .inl (c_text, 16384, .inl g_text))] := hD
        refine lv_if_eq (tgt := 44) hx hb px_d26_24 (by decide) (fun c24 => ?_) (fun c24 => ?_)
        · have hw := hw.1 c24
          refine lv_iload_n hx hb px_d26_44 rfl (lv_at hl 1 rfl) ?_
          exact S45 x1 x2 x1 iv g_text H locs ls hP hD hS (lv_sub hl [0, 1, 2] rfl) hw
        · have hw := hw.2 c24
          refine lv_bipush (v := 10) hx hb px_d26_27 (by decide) ?_
          refine lv_iload_n hx hb px_d26_29 rfl (lv_at hl 1 rfl) ?_
          refine lv_imul hx hb px_d26_30 ?_
          refine lv_aload_n hx hb px_d26_31 rfl (lv_at hl 0 rfl) ?_
          refine va_get (D := (dC, dI)) (ci := 8) (v := .ref (rf 36)) (C := "MatroidDeskModel") (T := px_T8) (N := 53) hx hb htw px_in8 hown hK hP 0 rfl rfl 36 (by decide) (htw _ px_w320) (fun _ h9 => h9) rfl px_d26_32 ?_
          refine lv_iload_n hx hb px_d26_35 rfl (lv_at hl 2 rfl) ?_
          obtain ⟨hi36, hw⟩ := hw
          refine va_bald hx hb hK hP 1 0 rfl rfl hi36 px_d26_36 ?_
          refine lv_iadd hx hb px_d26_37 ?_
          refine lv_bipush (v := 48) hx hb px_d26_38 (by decide) ?_
          refine lv_isub hx hb px_d26_40 ?_
          refine lv_goto (tgt := 45) hx hb px_d26_41 (by decide) ?_
          exact S45 x1 x2 (((10 * x1) + (g_text (Int32.toNatClampNeg x2))) - 48) iv g_text H locs ls hP hD hS (lv_sub hl [0, 1, 2] rfl) hw
  unfold mva_wp at hw
  have hS0 := hS
  obtain ⟨H, hH9⟩ : ∃ z, z = s.heap := ⟨_, rfl⟩
  have hP : va_P (dC, dI) vwCl [(h0, .inr (8, px_mf rf iv)), (rf 36, .inl (c_text, 16384, .inl g_text))] H := by rw [hH9]; exact hP
  obtain ⟨locs, hlo9⟩ : ∃ z : List Loc, z = [] := ⟨_, rfl⟩
  have hS : va_S A s.heap H locs := by rw [hH9, hlo9]; exact hS
  suffices hG : W p l e (headSpec px_s26 ({ frames := 1, cells := 0, slots := 0, locals := 20 })).room s m ([.ref h0]).toArray below meth c H locs 0 0 Q (F0 m 0 ls []) by rw [hH9, hlo9] at hG; exact hG
  refine lv_iconst (v := 0) hx hb px_d26_0 (by decide) ?_
  refine lv_istore_n (lv' := [(1, .int 0), (0, .ref h0)]) hx hb px_d26_1 rfl hl (by decide) rfl (fun ls hl => ?_)
  refine lv_aload_n hx hb px_d26_2 rfl (lv_at hl 1 rfl) ?_
  refine va_get (D := (dC, dI)) (ci := 8) (v := .int (iv 39)) (C := "MatroidDeskModel") (T := px_T8) (N := 53) hx hb htw px_in8 hown hK hP 0 rfl rfl 39 (by decide) (htw _ px_w330) (fun _ h9 => h9) rfl px_d26_3 ?_
  refine lv_topi (fun z2 ez2 => ?_)
  have hw := hw z2 ez2
  refine lv_istore_n (lv' := [(2, .int z2), (1, .int 0), (0, .ref h0)]) hx hb px_d26_6 rfl hl (by decide) rfl (fun ls hl => ?_)
  obtain ⟨k9, hw⟩ := hw
  exact S7 k9 0 z2 iv g_text H locs ls hP hD hS (lv_sub hl [2, 1, 0] rfl) hw

def min__L40 (post : Int32 → (Nat → Int32) → (Nat → Int32) → Prop) (y0 : Int32) (iv : Nat → Int32) (g_text : Nat → Int32) : Prop := narrow .boolean (.int y0) = .int y0 ∧ post y0 iv g_text
def min__L39 (post : Int32 → (Nat → Int32) → (Nat → Int32) → Prop) (iv : Nat → Int32) (g_text : Nat → Int32) : Prop := min__L40 post 0 iv g_text
def min__wp (post : Int32 → (Nat → Int32) → (Nat → Int32) → Prop) (iv : Nat → Int32) (g_text : Nat → Int32) : Prop := (¬ (iv 38) = 1 → min__L39 post iv g_text) ∧ ((iv 38) = 1 → (¬ (iv 40) = ((iv 39) + 1) → min__L39 post iv g_text) ∧ ((iv 40) = ((iv 39) + 1) → vp_in (iv 39) 16384 ∧ (((g_text (Int32.toNatClampNeg (iv 39))) < 97 → min__L39 post iv g_text) ∧ (¬ (g_text (Int32.toNatClampNeg (iv 39))) < 97 → min__L40 post 1 iv g_text))))
set_option maxHeartbeats 8000000 in
set_option maxRecDepth 100000 in
theorem min__met (l : Launch) (dC : Nat → ClassId) (dI : Nat → Nat → Nat) (sz : Nat) (h0 : Nat) (rf : Nat → Nat) (c_text : ClassId) (iv : Nat → Int32) (g_text : Nat → Int32) (post : Int32 → (Nat → Int32) → (Nat → Int32) → Prop) (hw : min__wp post iv g_text) : Met l px_y27 px_s27 ({ frames := 0, cells := 0, slots := 0, locals := 0 }) (va_Pc [.ref h0] (fun U => U.heap.size = sz ∧ va_P (dC, dI) vwCl [(h0, .inr (8, px_mf rf iv)), (rf 36, .inl (c_text, 16384, .inl g_text))] U.heap ∧ va_K (dC, dI) vwCl [(c_text, .byte)] U ∧ va_D (fun _ => True) [(h0, .inr (8, px_mf rf iv)), (rf 36, .inl (c_text, 16384, .inl g_text))] ∧ px_N U)) (va_Qi (fun (r : Int32) (u : (Nat → Int32) × (Nat → Int32)) => post r u.1 u.2) (fun (u : (Nat → Int32) × (Nat → Int32)) (t : State) => va_P (dC, dI) vwCl [(h0, .inr (8, px_mf rf u.1)), (rf 36, .inl (c_text, 16384, .inl u.2))] t.heap ∧ va_K (dC, dI) vwCl [(c_text, .byte)] t ∧ va_D (va_A [(h0, .inr (8, px_mf rf iv)), (rf 36, .inl (c_text, 16384, .inl g_text))] sz) [(h0, .inr (8, px_mf rf u.1)), (rf 36, .inl (c_text, 16384, .inl u.2))]) (va_A [(h0, .inr (8, px_mf rf iv)), (rf 36, .inl (c_text, 16384, .inl g_text))] sz)) 0 0 (va_A [(h0, .inr (8, px_mf rf iv)), (rf 36, .inl (c_text, 16384, .inl g_text))] sz) := by
  refine Met.ofW (cc := prog_15_method_55_code) (maxL := 1) (ret := (some .boolean)) (by decide) rfl ?_
  intro p e s m args below meth c s₁ B hml hv
  obtain ⟨rfl, hsz, hP, hK, hD0, hN⟩ := hv
  have hx := B.exec
  have hb := B.bytes
  have hr := B.returns
  have htw : ∀ w ∈ px_all, w.before _ s = true := fun w h => atoms_spec (ws := px_s27) B.pre w (List.mem_cons_of_mem _ h)
  have hown : s.vm.findClass "MatroidDeskModel" = some m.cls := findClass_of_methodNamed B.named
  have hlocks := B.notSynchronized
  subst hsz
  have hD := hD0.self (sz := s.heap.size)
  generalize hAe : va_A [(h0, .inr (8, px_mf rf iv)), (rf 36, .inl (c_text, 16384, .inl g_text))] s.heap.size = A at hD ⊢
  have hA : ∀ q : Nat, s.heap.size ≤ q → A q := fun q h => by rw [← hAe]; exact Or.inr h
  have hS : va_S A s.heap s.heap [] := va_S.rf
  have hP : va_P (dC, dI) vwCl [(h0, .inr (8, px_mf rf iv)), (rf 36, .inl (c_text, 16384, .inl g_text))] s.heap := hP
  have hl := lv_entry ([.ref h0]) (n := 1) (Nat.le_of_ble_eq_true rfl)
  rw [lg_entry_eq]
  generalize (lg_sl ([.ref h0]) ++ List.replicate (1 - (lg_sl ([.ref h0])).length) Slot.unset).toArray = ls at hl ⊢
  have hl : lv_has ls 1 [(0, .ref h0)] := hl
  generalize hQ : MQ _ _ _ _ _ _ _ = Q
  have S40 : ∀ (y0 : Int32) (iv : Nat → Int32) (g_text : Nat → Int32) (H : Heap) (locs : List Loc) (ls : Array Slot), va_P (dC, dI) vwCl [(h0, .inr (8, px_mf rf iv)), (rf 36, .inl (c_text, 16384, .inl g_text))] H → va_D A [(h0, .inr (8, px_mf rf iv)), (rf 36, .inl (c_text, 16384, .inl g_text))] → va_S A s.heap H locs → lv_has ls 1 [(0, .ref h0)] → min__L40 post y0 iv g_text → W p l e (headSpec px_s27 ({ frames := 0, cells := 0, slots := 0, locals := 0 })).room s m ([.ref h0]).toArray below meth c H locs 0 0 Q (F0 m 40 ls [.int y0]) := by
    intro y0 iv g_text H locs ls hP hD hS hl hw
    unfold min__L40 at hw
    obtain ⟨hz9, hw⟩ := hw
    rw [← hQ]
    exact W.zret (v := y0) hx hb hr hz9 (fun t ht hW => ⟨⟨y0, (iv, g_text), rfl, hw, by rw [ht]; exact hP, va_K.moved hW.alike hK, hD⟩, hS.F ht⟩) hS.2.2 px_d27_40
  have S39 : ∀ (iv : Nat → Int32) (g_text : Nat → Int32) (H : Heap) (locs : List Loc) (ls : Array Slot), va_P (dC, dI) vwCl [(h0, .inr (8, px_mf rf iv)), (rf 36, .inl (c_text, 16384, .inl g_text))] H → va_D A [(h0, .inr (8, px_mf rf iv)), (rf 36, .inl (c_text, 16384, .inl g_text))] → va_S A s.heap H locs → lv_has ls 1 [(0, .ref h0)] → min__L39 post iv g_text → W p l e (headSpec px_s27 ({ frames := 0, cells := 0, slots := 0, locals := 0 })).room s m ([.ref h0]).toArray below meth c H locs 0 0 Q (F0 m 39 ls []) := by
    intro iv g_text H locs ls hP hD hS hl hw
    unfold min__L39 at hw
    refine lv_iconst (v := 0) hx hb px_d27_39 (by decide) ?_
    exact S40 0 iv g_text H locs ls hP hD hS (lv_sub hl [0] rfl) hw
  unfold min__wp at hw
  have hS0 := hS
  obtain ⟨H, hH9⟩ : ∃ z, z = s.heap := ⟨_, rfl⟩
  have hP : va_P (dC, dI) vwCl [(h0, .inr (8, px_mf rf iv)), (rf 36, .inl (c_text, 16384, .inl g_text))] H := by rw [hH9]; exact hP
  obtain ⟨locs, hlo9⟩ : ∃ z : List Loc, z = [] := ⟨_, rfl⟩
  have hS : va_S A s.heap H locs := by rw [hH9, hlo9]; exact hS
  suffices hG : W p l e (headSpec px_s27 ({ frames := 0, cells := 0, slots := 0, locals := 0 })).room s m ([.ref h0]).toArray below meth c H locs 0 0 Q (F0 m 0 ls []) by rw [hH9, hlo9] at hG; exact hG
  refine lv_aload_n hx hb px_d27_0 rfl (lv_at hl 0 rfl) ?_
  refine va_get (D := (dC, dI)) (ci := 8) (v := .int (iv 38)) (C := "MatroidDeskModel") (T := px_T8) (N := 53) hx hb htw px_in8 hown hK hP 0 rfl rfl 38 (by decide) (htw _ px_w331) (fun _ h9 => h9) rfl px_d27_1 ?_
  refine lv_iconst (v := 1) hx hb px_d27_4 (by decide) ?_
  refine lv_icmp_ne (tgt := 39) hx hb px_d27_5 (by decide) (fun c5 => ?_) (fun c5 => ?_)
  · have hw := hw.1 c5
    exact S39 iv g_text H locs ls hP hD hS (lv_sub hl [0] rfl) hw
  · have hw := hw.2 c5
    refine lv_aload_n hx hb px_d27_8 rfl (lv_at hl 0 rfl) ?_
    refine va_get (D := (dC, dI)) (ci := 8) (v := .int (iv 40)) (C := "MatroidDeskModel") (T := px_T8) (N := 53) hx hb htw px_in8 hown hK hP 0 rfl rfl 40 (by decide) (htw _ px_w328) (fun _ h9 => h9) rfl px_d27_9 ?_
    refine lv_aload_n hx hb px_d27_12 rfl (lv_at hl 0 rfl) ?_
    refine va_get (D := (dC, dI)) (ci := 8) (v := .int (iv 39)) (C := "MatroidDeskModel") (T := px_T8) (N := 53) hx hb htw px_in8 hown hK hP 0 rfl rfl 39 (by decide) (htw _ px_w330) (fun _ h9 => h9) rfl px_d27_13 ?_
    refine lv_iconst (v := 1) hx hb px_d27_16 (by decide) ?_
    refine lv_iadd hx hb px_d27_17 ?_
    refine lv_icmp_ne (tgt := 39) hx hb px_d27_18 (by decide) (fun c18 => ?_) (fun c18 => ?_)
    · have hw := hw.1 c18
      exact S39 iv g_text H locs ls hP hD hS (lv_sub hl [0] rfl) hw
    · have hw := hw.2 c18
      refine lv_aload_n hx hb px_d27_21 rfl (lv_at hl 0 rfl) ?_
      refine va_get (D := (dC, dI)) (ci := 8) (v := .ref (rf 36)) (C := "MatroidDeskModel") (T := px_T8) (N := 53) hx hb htw px_in8 hown hK hP 0 rfl rfl 36 (by decide) (htw _ px_w320) (fun _ h9 => h9) rfl px_d27_22 ?_
      refine lv_aload_n hx hb px_d27_25 rfl (lv_at hl 0 rfl) ?_
      refine va_get (D := (dC, dI)) (ci := 8) (v := .int (iv 39)) (C := "MatroidDeskModel") (T := px_T8) (N := 53) hx hb htw px_in8 hown hK hP 0 rfl rfl 39 (by decide) (htw _ px_w330) (fun _ h9 => h9) rfl px_d27_26 ?_
      obtain ⟨hi29, hw⟩ := hw
      refine va_bald hx hb hK hP 1 0 rfl rfl hi29 px_d27_29 ?_
      refine lv_bipush (v := 97) hx hb px_d27_30 (by decide) ?_
      refine lv_icmp_lt (tgt := 39) hx hb px_d27_32 (by decide) (fun c32 => ?_) (fun c32 => ?_)
      · have hw := hw.1 c32
        exact S39 iv g_text H locs ls hP hD hS (lv_sub hl [0] rfl) hw
      · have hw := hw.2 c32
        refine lv_iconst (v := 1) hx hb px_d27_35 (by decide) ?_
        refine lv_goto (tgt := 40) hx hb px_d27_36 (by decide) ?_
        exact S40 1 iv g_text H locs ls hP hD hS (lv_sub hl [0] rfl) hw

def mwa_L35 (post : (Nat → Int32) → (Nat → Int32) → Prop) (x1 : Int32) (iv : Nat → Int32) (g_text : Nat → Int32) : Prop := post iv g_text
def mwa_L24 (post : (Nat → Int32) → (Nat → Int32) → Prop) (x1 : Int32) (iv : Nat → Int32) (g_text : Nat → Int32) : Prop := (¬ (iv 41) = 0 → mwa_L35 post x1 iv g_text) ∧ ((iv 41) = 0 → mnx_wp (fun v1 v2 => mwa_L35 post x1 v1 v2) iv g_text)
def mwa_wp (post : (Nat → Int32) → (Nat → Int32) → Prop) (bx : Int32) (iv : Nat → Int32) (g_text : Nat → Int32) : Prop := (¬ (iv 41) = 0 → mwa_L24 post bx iv g_text) ∧ ((iv 41) = 0 → (¬ bx = 0 → mwa_L24 post bx iv g_text) ∧ (bx = 0 → ∀ z3 : Int32, z3 = iv 39 → mwa_L24 post bx (va_up (va_up iv 41 1) 42 z3) g_text))
set_option maxHeartbeats 8000000 in
set_option maxRecDepth 100000 in
theorem mwa_met (l : Launch) (dC : Nat → ClassId) (dI : Nat → Nat → Nat) (sz : Nat) (h0 : Nat) (rf : Nat → Nat) (c_text : ClassId) (bx : Int32) (iv : Nat → Int32) (g_text : Nat → Int32) (post : (Nat → Int32) → (Nat → Int32) → Prop) (hw : mwa_wp post bx iv g_text) : Met l px_y28 px_s28 ({ frames := 2, cells := 0, slots := 0, locals := 45 }) (va_Pc [.ref h0, .int bx] (fun U => U.heap.size = sz ∧ va_P (dC, dI) vwCl [(h0, .inr (8, px_mf rf iv)), (rf 36, .inl (c_text, 16384, .inl g_text))] U.heap ∧ va_K (dC, dI) vwCl [(c_text, .byte)] U ∧ va_D (fun _ => True) [(h0, .inr (8, px_mf rf iv)), (rf 36, .inl (c_text, 16384, .inl g_text))] ∧ px_N U)) (va_Qv (fun (u : (Nat → Int32) × (Nat → Int32)) => post u.1 u.2) (fun (u : (Nat → Int32) × (Nat → Int32)) (t : State) => va_P (dC, dI) vwCl [(h0, .inr (8, px_mf rf u.1)), (rf 36, .inl (c_text, 16384, .inl u.2))] t.heap ∧ va_K (dC, dI) vwCl [(c_text, .byte)] t ∧ va_D (va_A [(h0, .inr (8, px_mf rf iv)), (rf 36, .inl (c_text, 16384, .inl g_text))] sz) [(h0, .inr (8, px_mf rf u.1)), (rf 36, .inl (c_text, 16384, .inl u.2))]) (va_A [(h0, .inr (8, px_mf rf iv)), (rf 36, .inl (c_text, 16384, .inl g_text))] sz)) 0 0 (va_A [(h0, .inr (8, px_mf rf iv)), (rf 36, .inl (c_text, 16384, .inl g_text))] sz) := by
  refine Met.ofW (cc := prog_15_method_57_code) (maxL := 2) (ret := none) (by decide) rfl ?_
  intro p e s m args below meth c s₁ B hml hv
  obtain ⟨rfl, hsz, hP, hK, hD0, hN⟩ := hv
  have hx := B.exec
  have hb := B.bytes
  have hr := B.returns
  have htw : ∀ w ∈ px_all, w.before _ s = true := fun w h => atoms_spec (ws := px_s28) B.pre w (List.mem_cons_of_mem _ h)
  have hown : s.vm.findClass "MatroidDeskModel" = some m.cls := findClass_of_methodNamed B.named
  have hlocks := B.notSynchronized
  subst hsz
  have hD := hD0.self (sz := s.heap.size)
  generalize hAe : va_A [(h0, .inr (8, px_mf rf iv)), (rf 36, .inl (c_text, 16384, .inl g_text))] s.heap.size = A at hD ⊢
  have hA : ∀ q : Nat, s.heap.size ≤ q → A q := fun q h => by rw [← hAe]; exact Or.inr h
  have hS : va_S A s.heap s.heap [] := va_S.rf
  have hP : va_P (dC, dI) vwCl [(h0, .inr (8, px_mf rf iv)), (rf 36, .inl (c_text, 16384, .inl g_text))] s.heap := hP
  have hl := lv_entry ([.ref h0, .int bx]) (n := 2) (Nat.le_of_ble_eq_true rfl)
  rw [lg_entry_eq]
  generalize (lg_sl ([.ref h0, .int bx]) ++ List.replicate (2 - (lg_sl ([.ref h0, .int bx])).length) Slot.unset).toArray = ls at hl ⊢
  have hl : lv_has ls 2 [(0, .ref h0), (1, .int bx)] := hl
  generalize hQ : MQ _ _ _ _ _ _ _ = Q
  have S35 : ∀ (x1 : Int32) (iv : Nat → Int32) (g_text : Nat → Int32) (H : Heap) (locs : List Loc) (ls : Array Slot), va_P (dC, dI) vwCl [(h0, .inr (8, px_mf rf iv)), (rf 36, .inl (c_text, 16384, .inl g_text))] H → va_D A [(h0, .inr (8, px_mf rf iv)), (rf 36, .inl (c_text, 16384, .inl g_text))] → va_S A s.heap H locs → lv_has ls 2 [(0, .ref h0), (1, .int x1)] → mwa_L35 post x1 iv g_text → W p l e (headSpec px_s28 ({ frames := 2, cells := 0, slots := 0, locals := 45 })).room s m ([.ref h0, .int bx]).toArray below meth c H locs 0 0 Q (F0 m 35 ls []) := by
    intro x1 iv g_text H locs ls hP hD hS hl hw
    unfold mwa_L35 at hw
    rw [← hQ]
    exact W.vret hx hb hr (fun t ht hW => ⟨⟨(iv, g_text), rfl, hw, by rw [ht]; exact hP, va_K.moved hW.alike hK, hD⟩, hS.F ht⟩) hS.2.2 px_d28_35
  have S24 : ∀ (x1 : Int32) (iv : Nat → Int32) (g_text : Nat → Int32) (H : Heap) (locs : List Loc) (ls : Array Slot), va_P (dC, dI) vwCl [(h0, .inr (8, px_mf rf iv)), (rf 36, .inl (c_text, 16384, .inl g_text))] H → va_D A [(h0, .inr (8, px_mf rf iv)), (rf 36, .inl (c_text, 16384, .inl g_text))] → va_S A s.heap H locs → lv_has ls 2 [(0, .ref h0), (1, .int x1)] → mwa_L24 post x1 iv g_text → W p l e (headSpec px_s28 ({ frames := 2, cells := 0, slots := 0, locals := 45 })).room s m ([.ref h0, .int bx]).toArray below meth c H locs 0 0 Q (F0 m 24 ls []) := by
    intro x1 iv g_text H locs ls hP hD hS hl hw
    unfold mwa_L24 at hw
    refine lv_aload_n hx hb px_d28_24 rfl (lv_at hl 0 rfl) ?_
    refine va_get (D := (dC, dI)) (ci := 8) (v := .int (iv 41)) (C := "MatroidDeskModel") (T := px_T8) (N := 53) hx hb htw px_in8 hown hK hP 0 rfl rfl 41 (by decide) (htw _ px_w343) (fun _ h9 => h9) rfl px_d28_25 ?_
    refine lv_if_ne (tgt := 35) hx hb px_d28_28 (by decide) (fun c28 => ?_) (fun c28 => ?_)
    · have hw := hw.1 c28
      exact S35 x1 iv g_text H locs ls hP hD hS (lv_sub hl [0, 1] rfl) hw
    · have hw := hw.2 c28
      refine lv_aload_n hx hb px_d28_31 rfl (lv_at hl 0 rfl) ?_
      have hPc := hP.sub (ws' := [(h0, .inr (8, px_mf rf iv)), (rf 36, .inl (c_text, 16384, .inl g_text))]) [0, 1] rfl
      have hDc := hD.sub (ws' := [(h0, .inr (8, px_mf rf iv)), (rf 36, .inl (c_text, 16384, .inl g_text))]) [0, 1] (by decide) rfl
      have hKc := hK.sub (tys' := [(c_text, .byte)]) [0] rfl
      have hFc := va_free (wc := [(h0, .inr (8, px_mf rf iv)), (rf 36, .inl (c_text, 16384, .inl g_text))]) hD hS hA [0, 1] rfl
      refine va_callv (va_runV (As := []) (rest := []) ⟨hx, hb, hml, hown, htw⟩ (mnx_met l dC dI H.size h0 rf c_text iv g_text _ hw) (cwV 0 htw (px_gv px_w345 px_w326 px_w327 px_w94 px_g25) rfl rfl rfl (by decide +kernel) ⟨Nat.le_of_ble_eq_true rfl, Nat.le_of_ble_eq_true rfl⟩) ⟨fun a U g mk q => by obtain ⟨q0, q1, qP, qK, qD, qN⟩ := q; exact ⟨q0, q1, qP, va_K.moved (u := U) (U := U.calling g mk a) (Vm.Alike.refl U.vm) qK, qD, qN.same rfl⟩, va_recv hK hP (ci := 8) (q0 := 0) rfl rfl, fun U hU hW => ⟨rfl, by rw [hU], by rw [hU]; exact hPc, va_K.moved hW.alike hKc, hDc.weaken (fun _ _ _ _ => trivial), hN.warm hW⟩⟩ rfl rfl hl.1 rfl (lv_room (Nat.le_of_ble_eq_true rfl)) px_d28_32 ⟨(Nat.le_of_ble_eq_true rfl), (Nat.le_of_ble_eq_true rfl)⟩) hS (fun q _ h => hFc q h) hFc (fun u t H1 locs ht hvm hw hB hz1 hk1 hS => ?_)
      obtain ⟨v1, v2⟩ := u
      obtain ⟨hP1, hK1, hD1⟩ := hB
      rw [ht] at hP1
      have hK1 := va_K.moved hvm.symm hK1
      obtain ⟨hP, hD⟩ := va_join (wr := []) (w1 := [(h0, .inr (8, px_mf rf v1)), (rf 36, .inl (c_text, 16384, .inl v2))]) hP hD [0, 1] [] rfl rfl (by decide) (by decide) hk1 hFc hP1 hD1
      generalize H1 = H at hP hS ⊢
      have hP : va_P (dC, dI) vwCl [(h0, .inr (8, px_mf rf v1)), (rf 36, .inl (c_text, 16384, .inl v2))] H := hP
      have hD : va_D A [(h0, .inr (8, px_mf rf v1)), (rf 36, .inl (c_text, 16384, .inl v2))] := hD
      exact S35 x1 v1 v2 H locs ls hP hD hS (lv_sub hl [0, 1] rfl) hw
  unfold mwa_wp at hw
  have hS0 := hS
  obtain ⟨H, hH9⟩ : ∃ z, z = s.heap := ⟨_, rfl⟩
  have hP : va_P (dC, dI) vwCl [(h0, .inr (8, px_mf rf iv)), (rf 36, .inl (c_text, 16384, .inl g_text))] H := by rw [hH9]; exact hP
  obtain ⟨locs, hlo9⟩ : ∃ z : List Loc, z = [] := ⟨_, rfl⟩
  have hS : va_S A s.heap H locs := by rw [hH9, hlo9]; exact hS
  suffices hG : W p l e (headSpec px_s28 ({ frames := 2, cells := 0, slots := 0, locals := 45 })).room s m ([.ref h0, .int bx]).toArray below meth c H locs 0 0 Q (F0 m 0 ls []) by rw [hH9, hlo9] at hG; exact hG
  refine lv_aload_n hx hb px_d28_0 rfl (lv_at hl 0 rfl) ?_
  refine va_get (D := (dC, dI)) (ci := 8) (v := .int (iv 41)) (C := "MatroidDeskModel") (T := px_T8) (N := 53) hx hb htw px_in8 hown hK hP 0 rfl rfl 41 (by decide) (htw _ px_w343) (fun _ h9 => h9) rfl px_d28_1 ?_
  refine lv_if_ne (tgt := 24) hx hb px_d28_4 (by decide) (fun c4 => ?_) (fun c4 => ?_)
  · have hw := hw.1 c4
    exact S24 bx iv g_text H locs ls hP hD hS (lv_sub hl [0, 1] rfl) hw
  · have hw := hw.2 c4
    refine lv_iload_n hx hb px_d28_7 rfl (lv_at hl 1 rfl) ?_
    refine lv_if_ne (tgt := 24) hx hb px_d28_8 (by decide) (fun c8 => ?_) (fun c8 => ?_)
    · have hw := hw.1 c8
      exact S24 bx iv g_text H locs ls hP hD hS (lv_sub hl [0, 1] rfl) hw
    · have hw := hw.2 c8
      refine lv_aload_n hx hb px_d28_11 rfl (lv_at hl 0 rfl) ?_
      refine lv_iconst (v := 1) hx hb px_d28_12 (by decide) ?_
      refine va_put (D := (dC, dI)) (ci := 8) (v := .int 1) (ty := .boolean) (C := "MatroidDeskModel") (T := px_T8) (N := 53) hx hb htw px_in8 px_ty8 px_tyok8 px_nm8 hown hK hP hD hS 0 rfl rfl 41 (by decide) (htw _ px_w343) (fun _ h9 => h9) rfl (by decide +kernel) (by decide +kernel) (by decide +kernel) (Nat.le_of_ble_eq_true rfl) px_d28_13 (fun H locs hP hD hS => ?_)
      rw [px_ms41] at hP hD
      have hP : va_P (dC, dI) vwCl [(h0, .inr (8, px_mf rf (va_up iv 41 1))), (rf 36, .inl (c_text, 16384, .inl g_text))] H := hP
      have hD : va_D A [(h0, .inr (8, px_mf rf (va_up iv 41 1))), (rf 36, .inl (c_text, 16384, .inl g_text))] := hD
      refine lv_aload_n hx hb px_d28_16 rfl (lv_at hl 0 rfl) ?_
      refine lv_aload_n hx hb px_d28_17 rfl (lv_at hl 0 rfl) ?_
      refine va_get (D := (dC, dI)) (ci := 8) (v := .int (iv 39)) (C := "MatroidDeskModel") (T := px_T8) (N := 53) hx hb htw px_in8 hown hK hP 0 rfl rfl 39 (by decide) (htw _ px_w330) (fun _ h9 => h9) rfl px_d28_18 ?_
      refine lv_topi (fun z3 ez3 => ?_)
      have hw := hw z3 ez3
      refine va_put (D := (dC, dI)) (ci := 8) (v := .int z3) (ty := .int) (C := "MatroidDeskModel") (T := px_T8) (N := 53) hx hb htw px_in8 px_ty8 px_tyok8 px_nm8 hown hK hP hD hS 0 rfl rfl 42 (by decide) (htw _ px_w344) (fun _ h9 => h9) rfl (by decide +kernel) rfl rfl (Nat.le_of_ble_eq_true rfl) px_d28_21 (fun H locs hP hD hS => ?_)
      rw [px_ms42] at hP hD
      have hP : va_P (dC, dI) vwCl [(h0, .inr (8, px_mf rf (va_up (va_up iv 41 1) 42 z3))), (rf 36, .inl (c_text, 16384, .inl g_text))] H := hP
      have hD : va_D A [(h0, .inr (8, px_mf rf (va_up (va_up iv 41 1) 42 z3))), (rf 36, .inl (c_text, 16384, .inl g_text))] := hD
      exact S24 bx (va_up (va_up iv 41 1) 42 z3) g_text H locs ls hP hD hS (lv_sub hl [0, 1] rfl) hw

def mnm_wp (post : (Nat → Int32) → (Nat → Int32) → Prop) (iv : Nat → Int32) (g_text : Nat → Int32) : Prop := min__wp (fun r2 v1 v2 => mwa_wp (fun v3 v4 => post v3 v4) r2 v1 v2) iv g_text
set_option maxHeartbeats 8000000 in
set_option maxRecDepth 100000 in
theorem mnm_met (l : Launch) (dC : Nat → ClassId) (dI : Nat → Nat → Nat) (sz : Nat) (h0 : Nat) (rf : Nat → Nat) (c_text : ClassId) (iv : Nat → Int32) (g_text : Nat → Int32) (post : (Nat → Int32) → (Nat → Int32) → Prop) (hw : mnm_wp post iv g_text) : Met l px_y29 px_s29 ({ frames := 3, cells := 0, slots := 0, locals := 66 }) (va_Pc [.ref h0] (fun U => U.heap.size = sz ∧ va_P (dC, dI) vwCl [(h0, .inr (8, px_mf rf iv)), (rf 36, .inl (c_text, 16384, .inl g_text))] U.heap ∧ va_K (dC, dI) vwCl [(c_text, .byte)] U ∧ va_D (fun _ => True) [(h0, .inr (8, px_mf rf iv)), (rf 36, .inl (c_text, 16384, .inl g_text))] ∧ px_N U)) (va_Qv (fun (u : (Nat → Int32) × (Nat → Int32)) => post u.1 u.2) (fun (u : (Nat → Int32) × (Nat → Int32)) (t : State) => va_P (dC, dI) vwCl [(h0, .inr (8, px_mf rf u.1)), (rf 36, .inl (c_text, 16384, .inl u.2))] t.heap ∧ va_K (dC, dI) vwCl [(c_text, .byte)] t ∧ va_D (va_A [(h0, .inr (8, px_mf rf iv)), (rf 36, .inl (c_text, 16384, .inl g_text))] sz) [(h0, .inr (8, px_mf rf u.1)), (rf 36, .inl (c_text, 16384, .inl u.2))]) (va_A [(h0, .inr (8, px_mf rf iv)), (rf 36, .inl (c_text, 16384, .inl g_text))] sz)) 0 0 (va_A [(h0, .inr (8, px_mf rf iv)), (rf 36, .inl (c_text, 16384, .inl g_text))] sz) := by
  refine Met.ofW (cc := prog_15_method_58_code) (maxL := 1) (ret := none) (by decide) rfl ?_
  intro p e s m args below meth c s₁ B hml hv
  obtain ⟨rfl, hsz, hP, hK, hD0, hN⟩ := hv
  have hx := B.exec
  have hb := B.bytes
  have hr := B.returns
  have htw : ∀ w ∈ px_all, w.before _ s = true := fun w h => atoms_spec (ws := px_s29) B.pre w (List.mem_cons_of_mem _ h)
  have hown : s.vm.findClass "MatroidDeskModel" = some m.cls := findClass_of_methodNamed B.named
  have hlocks := B.notSynchronized
  subst hsz
  have hD := hD0.self (sz := s.heap.size)
  generalize hAe : va_A [(h0, .inr (8, px_mf rf iv)), (rf 36, .inl (c_text, 16384, .inl g_text))] s.heap.size = A at hD ⊢
  have hA : ∀ q : Nat, s.heap.size ≤ q → A q := fun q h => by rw [← hAe]; exact Or.inr h
  have hS : va_S A s.heap s.heap [] := va_S.rf
  have hP : va_P (dC, dI) vwCl [(h0, .inr (8, px_mf rf iv)), (rf 36, .inl (c_text, 16384, .inl g_text))] s.heap := hP
  have hl := lv_entry ([.ref h0]) (n := 1) (Nat.le_of_ble_eq_true rfl)
  rw [lg_entry_eq]
  generalize (lg_sl ([.ref h0]) ++ List.replicate (1 - (lg_sl ([.ref h0])).length) Slot.unset).toArray = ls at hl ⊢
  have hl : lv_has ls 1 [(0, .ref h0)] := hl
  generalize hQ : MQ _ _ _ _ _ _ _ = Q
  unfold mnm_wp at hw
  have hS0 := hS
  obtain ⟨H, hH9⟩ : ∃ z, z = s.heap := ⟨_, rfl⟩
  have hP : va_P (dC, dI) vwCl [(h0, .inr (8, px_mf rf iv)), (rf 36, .inl (c_text, 16384, .inl g_text))] H := by rw [hH9]; exact hP
  obtain ⟨locs, hlo9⟩ : ∃ z : List Loc, z = [] := ⟨_, rfl⟩
  have hS : va_S A s.heap H locs := by rw [hH9, hlo9]; exact hS
  suffices hG : W p l e (headSpec px_s29 ({ frames := 3, cells := 0, slots := 0, locals := 66 })).room s m ([.ref h0]).toArray below meth c H locs 0 0 Q (F0 m 0 ls []) by rw [hH9, hlo9] at hG; exact hG
  refine lv_aload_n hx hb px_d29_0 rfl (lv_at hl 0 rfl) ?_
  refine lv_aload_n hx hb px_d29_1 rfl (lv_at hl 0 rfl) ?_
  have hPc := hP.sub (ws' := [(h0, .inr (8, px_mf rf iv)), (rf 36, .inl (c_text, 16384, .inl g_text))]) [0, 1] rfl
  have hDc := hD.sub (ws' := [(h0, .inr (8, px_mf rf iv)), (rf 36, .inl (c_text, 16384, .inl g_text))]) [0, 1] (by decide) rfl
  have hKc := hK.sub (tys' := [(c_text, .byte)]) [0] rfl
  have hFc := va_free (wc := [(h0, .inr (8, px_mf rf iv)), (rf 36, .inl (c_text, 16384, .inl g_text))]) hD hS hA [0, 1] rfl
  refine va_calli (va_runV (As := []) (rest := [.ref h0]) ⟨hx, hb, hml, hown, htw⟩ (min__met l dC dI H.size h0 rf c_text iv g_text _ hw) (cwV 0 htw (px_gv px_w349 px_w338 px_w339 px_w94 px_g27) rfl rfl rfl (by decide +kernel) ⟨Nat.le_of_ble_eq_true rfl, Nat.le_of_ble_eq_true rfl⟩) ⟨fun a U g mk q => by obtain ⟨q0, q1, qP, qK, qD, qN⟩ := q; exact ⟨q0, q1, qP, va_K.moved (u := U) (U := U.calling g mk a) (Vm.Alike.refl U.vm) qK, qD, qN.same rfl⟩, va_recv hK hP (ci := 8) (q0 := 0) rfl rfl, fun U hU hW => ⟨rfl, by rw [hU], by rw [hU]; exact hPc, va_K.moved hW.alike hKc, hDc.weaken (fun _ _ _ _ => trivial), hN.warm hW⟩⟩ rfl rfl hl.1 rfl (lv_room (Nat.le_of_ble_eq_true rfl)) px_d29_2 ⟨(Nat.le_of_ble_eq_true rfl), (Nat.le_of_ble_eq_true rfl)⟩) hS (fun q _ h => hFc q h) hFc (fun r2 u t H1 locs ht hvm hw hB hz1 hk1 hS => ?_)
  obtain ⟨v1, v2⟩ := u
  obtain ⟨hP1, hK1, hD1⟩ := hB
  rw [ht] at hP1
  have hK1 := va_K.moved hvm.symm hK1
  obtain ⟨hP, hD⟩ := va_join (wr := []) (w1 := [(h0, .inr (8, px_mf rf v1)), (rf 36, .inl (c_text, 16384, .inl v2))]) hP hD [0, 1] [] rfl rfl (by decide) (by decide) hk1 hFc hP1 hD1
  generalize H1 = H at hP hS ⊢
  have hP : va_P (dC, dI) vwCl [(h0, .inr (8, px_mf rf v1)), (rf 36, .inl (c_text, 16384, .inl v2))] H := hP
  have hD : va_D A [(h0, .inr (8, px_mf rf v1)), (rf 36, .inl (c_text, 16384, .inl v2))] := hD
  have hPc := hP.sub (ws' := [(h0, .inr (8, px_mf rf v1)), (rf 36, .inl (c_text, 16384, .inl v2))]) [0, 1] rfl
  have hDc := hD.sub (ws' := [(h0, .inr (8, px_mf rf v1)), (rf 36, .inl (c_text, 16384, .inl v2))]) [0, 1] (by decide) rfl
  have hKc := hK.sub (tys' := [(c_text, .byte)]) [0] rfl
  have hFc := va_free (wc := [(h0, .inr (8, px_mf rf v1)), (rf 36, .inl (c_text, 16384, .inl v2))]) hD hS hA [0, 1] rfl
  refine va_callv (va_runV (As := [.int r2]) (rest := []) ⟨hx, hb, hml, hown, htw⟩ (mwa_met l dC dI H.size h0 rf c_text r2 v1 v2 _ hw) (cwV 1 htw (px_gv px_w350 px_w341 px_w342 px_w94 px_g28) rfl rfl rfl (by decide +kernel) ⟨Nat.le_of_ble_eq_true rfl, Nat.le_of_ble_eq_true rfl⟩) ⟨fun a U g mk q => by obtain ⟨q0, q1, qP, qK, qD, qN⟩ := q; exact ⟨q0, q1, qP, va_K.moved (u := U) (U := U.calling g mk a) (Vm.Alike.refl U.vm) qK, qD, qN.same rfl⟩, va_recv hK hP (ci := 8) (q0 := 0) rfl rfl, fun U hU hW => ⟨rfl, by rw [hU], by rw [hU]; exact hPc, va_K.moved hW.alike hKc, hDc.weaken (fun _ _ _ _ => trivial), hN.warm hW⟩⟩ rfl rfl hl.1 rfl (lv_room (Nat.le_of_ble_eq_true rfl)) px_d29_5 ⟨(Nat.le_of_ble_eq_true rfl), (Nat.le_of_ble_eq_true rfl)⟩) hS (fun q _ h => hFc q h) hFc (fun u t H1 locs ht hvm hw hB hz1 hk1 hS => ?_)
  obtain ⟨v3, v4⟩ := u
  obtain ⟨hP1, hK1, hD1⟩ := hB
  rw [ht] at hP1
  have hK1 := va_K.moved hvm.symm hK1
  obtain ⟨hP, hD⟩ := va_join (wr := []) (w1 := [(h0, .inr (8, px_mf rf v3)), (rf 36, .inl (c_text, 16384, .inl v4))]) hP hD [0, 1] [] rfl rfl (by decide) (by decide) hk1 hFc hP1 hD1
  generalize H1 = H at hP hS ⊢
  have hP : va_P (dC, dI) vwCl [(h0, .inr (8, px_mf rf v3)), (rf 36, .inl (c_text, 16384, .inl v4))] H := hP
  have hD : va_D A [(h0, .inr (8, px_mf rf v3)), (rf 36, .inl (c_text, 16384, .inl v4))] := hD
  rw [← hQ]
  exact W.vret hx hb hr (fun t ht hW => ⟨⟨(v3, v4), rfl, hw, by rw [ht]; exact hP, va_K.moved hW.alike hK, hD⟩, hS.F ht⟩) hS.2.2 px_d29_8

def mnu_L14 (post : (Nat → Int32) → (Nat → Int32) → Prop) (y0 : Int32) (iv : Nat → Int32) (g_text : Nat → Int32) : Prop := mwa_wp (fun v1 v2 => post v1 v2) y0 iv g_text
def mnu_wp (post : (Nat → Int32) → (Nat → Int32) → Prop) (iv : Nat → Int32) (g_text : Nat → Int32) : Prop := (¬ (iv 38) = 2 → mnu_L14 post 0 iv g_text) ∧ ((iv 38) = 2 → mnu_L14 post 1 iv g_text)
set_option maxHeartbeats 8000000 in
set_option maxRecDepth 100000 in
theorem mnu_met (l : Launch) (dC : Nat → ClassId) (dI : Nat → Nat → Nat) (sz : Nat) (h0 : Nat) (rf : Nat → Nat) (c_text : ClassId) (iv : Nat → Int32) (g_text : Nat → Int32) (post : (Nat → Int32) → (Nat → Int32) → Prop) (hw : mnu_wp post iv g_text) : Met l px_y30 px_s30 ({ frames := 3, cells := 0, slots := 0, locals := 66 }) (va_Pc [.ref h0] (fun U => U.heap.size = sz ∧ va_P (dC, dI) vwCl [(h0, .inr (8, px_mf rf iv)), (rf 36, .inl (c_text, 16384, .inl g_text))] U.heap ∧ va_K (dC, dI) vwCl [(c_text, .byte)] U ∧ va_D (fun _ => True) [(h0, .inr (8, px_mf rf iv)), (rf 36, .inl (c_text, 16384, .inl g_text))] ∧ px_N U)) (va_Qv (fun (u : (Nat → Int32) × (Nat → Int32)) => post u.1 u.2) (fun (u : (Nat → Int32) × (Nat → Int32)) (t : State) => va_P (dC, dI) vwCl [(h0, .inr (8, px_mf rf u.1)), (rf 36, .inl (c_text, 16384, .inl u.2))] t.heap ∧ va_K (dC, dI) vwCl [(c_text, .byte)] t ∧ va_D (va_A [(h0, .inr (8, px_mf rf iv)), (rf 36, .inl (c_text, 16384, .inl g_text))] sz) [(h0, .inr (8, px_mf rf u.1)), (rf 36, .inl (c_text, 16384, .inl u.2))]) (va_A [(h0, .inr (8, px_mf rf iv)), (rf 36, .inl (c_text, 16384, .inl g_text))] sz)) 0 0 (va_A [(h0, .inr (8, px_mf rf iv)), (rf 36, .inl (c_text, 16384, .inl g_text))] sz) := by
  refine Met.ofW (cc := prog_15_method_59_code) (maxL := 1) (ret := none) (by decide) rfl ?_
  intro p e s m args below meth c s₁ B hml hv
  obtain ⟨rfl, hsz, hP, hK, hD0, hN⟩ := hv
  have hx := B.exec
  have hb := B.bytes
  have hr := B.returns
  have htw : ∀ w ∈ px_all, w.before _ s = true := fun w h => atoms_spec (ws := px_s30) B.pre w (List.mem_cons_of_mem _ h)
  have hown : s.vm.findClass "MatroidDeskModel" = some m.cls := findClass_of_methodNamed B.named
  have hlocks := B.notSynchronized
  subst hsz
  have hD := hD0.self (sz := s.heap.size)
  generalize hAe : va_A [(h0, .inr (8, px_mf rf iv)), (rf 36, .inl (c_text, 16384, .inl g_text))] s.heap.size = A at hD ⊢
  have hA : ∀ q : Nat, s.heap.size ≤ q → A q := fun q h => by rw [← hAe]; exact Or.inr h
  have hS : va_S A s.heap s.heap [] := va_S.rf
  have hP : va_P (dC, dI) vwCl [(h0, .inr (8, px_mf rf iv)), (rf 36, .inl (c_text, 16384, .inl g_text))] s.heap := hP
  have hl := lv_entry ([.ref h0]) (n := 1) (Nat.le_of_ble_eq_true rfl)
  rw [lg_entry_eq]
  generalize (lg_sl ([.ref h0]) ++ List.replicate (1 - (lg_sl ([.ref h0])).length) Slot.unset).toArray = ls at hl ⊢
  have hl : lv_has ls 1 [(0, .ref h0)] := hl
  generalize hQ : MQ _ _ _ _ _ _ _ = Q
  have S14 : ∀ (y0 : Int32) (iv : Nat → Int32) (g_text : Nat → Int32) (H : Heap) (locs : List Loc) (ls : Array Slot), va_P (dC, dI) vwCl [(h0, .inr (8, px_mf rf iv)), (rf 36, .inl (c_text, 16384, .inl g_text))] H → va_D A [(h0, .inr (8, px_mf rf iv)), (rf 36, .inl (c_text, 16384, .inl g_text))] → va_S A s.heap H locs → lv_has ls 1 [(0, .ref h0)] → mnu_L14 post y0 iv g_text → W p l e (headSpec px_s30 ({ frames := 3, cells := 0, slots := 0, locals := 66 })).room s m ([.ref h0]).toArray below meth c H locs 0 0 Q (F0 m 14 ls [.int y0, .ref h0]) := by
    intro y0 iv g_text H locs ls hP hD hS hl hw
    unfold mnu_L14 at hw
    have hPc := hP.sub (ws' := [(h0, .inr (8, px_mf rf iv)), (rf 36, .inl (c_text, 16384, .inl g_text))]) [0, 1] rfl
    have hDc := hD.sub (ws' := [(h0, .inr (8, px_mf rf iv)), (rf 36, .inl (c_text, 16384, .inl g_text))]) [0, 1] (by decide) rfl
    have hKc := hK.sub (tys' := [(c_text, .byte)]) [0] rfl
    have hFc := va_free (wc := [(h0, .inr (8, px_mf rf iv)), (rf 36, .inl (c_text, 16384, .inl g_text))]) hD hS hA [0, 1] rfl
    refine va_callv (va_runV (As := [.int y0]) (rest := []) ⟨hx, hb, hml, hown, htw⟩ (mwa_met l dC dI H.size h0 rf c_text y0 iv g_text _ hw) (cwV 1 htw (px_gv px_w350 px_w341 px_w342 px_w94 px_g28) rfl rfl rfl (by decide +kernel) ⟨Nat.le_of_ble_eq_true rfl, Nat.le_of_ble_eq_true rfl⟩) ⟨fun a U g mk q => by obtain ⟨q0, q1, qP, qK, qD, qN⟩ := q; exact ⟨q0, q1, qP, va_K.moved (u := U) (U := U.calling g mk a) (Vm.Alike.refl U.vm) qK, qD, qN.same rfl⟩, va_recv hK hP (ci := 8) (q0 := 0) rfl rfl, fun U hU hW => ⟨rfl, by rw [hU], by rw [hU]; exact hPc, va_K.moved hW.alike hKc, hDc.weaken (fun _ _ _ _ => trivial), hN.warm hW⟩⟩ rfl rfl hl.1 rfl (lv_room (Nat.le_of_ble_eq_true rfl)) px_d30_14 ⟨(Nat.le_of_ble_eq_true rfl), (Nat.le_of_ble_eq_true rfl)⟩) hS (fun q _ h => hFc q h) hFc (fun u t H1 locs ht hvm hw hB hz1 hk1 hS => ?_)
    obtain ⟨v1, v2⟩ := u
    obtain ⟨hP1, hK1, hD1⟩ := hB
    rw [ht] at hP1
    have hK1 := va_K.moved hvm.symm hK1
    obtain ⟨hP, hD⟩ := va_join (wr := []) (w1 := [(h0, .inr (8, px_mf rf v1)), (rf 36, .inl (c_text, 16384, .inl v2))]) hP hD [0, 1] [] rfl rfl (by decide) (by decide) hk1 hFc hP1 hD1
    generalize H1 = H at hP hS ⊢
    have hP : va_P (dC, dI) vwCl [(h0, .inr (8, px_mf rf v1)), (rf 36, .inl (c_text, 16384, .inl v2))] H := hP
    have hD : va_D A [(h0, .inr (8, px_mf rf v1)), (rf 36, .inl (c_text, 16384, .inl v2))] := hD
    rw [← hQ]
    exact W.vret hx hb hr (fun t ht hW => ⟨⟨(v1, v2), rfl, hw, by rw [ht]; exact hP, va_K.moved hW.alike hK, hD⟩, hS.F ht⟩) hS.2.2 px_d30_17
  unfold mnu_wp at hw
  have hS0 := hS
  obtain ⟨H, hH9⟩ : ∃ z, z = s.heap := ⟨_, rfl⟩
  have hP : va_P (dC, dI) vwCl [(h0, .inr (8, px_mf rf iv)), (rf 36, .inl (c_text, 16384, .inl g_text))] H := by rw [hH9]; exact hP
  obtain ⟨locs, hlo9⟩ : ∃ z : List Loc, z = [] := ⟨_, rfl⟩
  have hS : va_S A s.heap H locs := by rw [hH9, hlo9]; exact hS
  suffices hG : W p l e (headSpec px_s30 ({ frames := 3, cells := 0, slots := 0, locals := 66 })).room s m ([.ref h0]).toArray below meth c H locs 0 0 Q (F0 m 0 ls []) by rw [hH9, hlo9] at hG; exact hG
  refine lv_aload_n hx hb px_d30_0 rfl (lv_at hl 0 rfl) ?_
  refine lv_aload_n hx hb px_d30_1 rfl (lv_at hl 0 rfl) ?_
  refine va_get (D := (dC, dI)) (ci := 8) (v := .int (iv 38)) (C := "MatroidDeskModel") (T := px_T8) (N := 53) hx hb htw px_in8 hown hK hP 0 rfl rfl 38 (by decide) (htw _ px_w331) (fun _ h9 => h9) rfl px_d30_2 ?_
  refine lv_iconst (v := 2) hx hb px_d30_5 (by decide) ?_
  refine lv_icmp_ne (tgt := 13) hx hb px_d30_6 (by decide) (fun c6 => ?_) (fun c6 => ?_)
  · have hw := hw.1 c6
    refine lv_iconst (v := 0) hx hb px_d30_13 (by decide) ?_
    exact S14 0 iv g_text H locs ls hP hD hS (lv_sub hl [0] rfl) hw
  · have hw := hw.2 c6
    refine lv_iconst (v := 1) hx hb px_d30_9 (by decide) ?_
    refine lv_goto (tgt := 14) hx hb px_d30_10 (by decide) ?_
    exact S14 1 iv g_text H locs ls hP hD hS (lv_sub hl [0] rfl) hw

def mns_L68 (post : (Nat → Int32) → (Nat → Int32) → Prop) (x1 : Int32) (y0 : Int32) (iv : Nat → Int32) (g_text : Nat → Int32) : Prop := mwa_wp (fun v1 v2 => post v1 v2) y0 iv g_text
def mns_L53 (post : (Nat → Int32) → (Nat → Int32) → Prop) (x1 : Int32) (iv : Nat → Int32) (g_text : Nat → Int32) : Prop := (¬ (iv 38) = 125 → mns_L68 post x1 0 iv g_text) ∧ ((iv 38) = 125 → mns_L68 post x1 1 iv g_text)
def mns_L46 (K18 : Int32 → (Nat → Int32) → (Nat → Int32) → Prop) (post : (Nat → Int32) → (Nat → Int32) → Prop) (x1 : Int32) (iv : Nat → Int32) (g_text : Nat → Int32) : Prop := mnx_wp (fun v3 v4 => K18 x1 v3 v4) iv g_text
def mns_L18 (post : (Nat → Int32) → (Nat → Int32) → Prop) : Nat → Int32 → (Nat → Int32) → (Nat → Int32) → Prop
  | 0 => fun _ _ _ => False
  | k + 1 => fun x1 iv g_text => (¬ (iv 41) = 0 → mns_L53 post x1 iv g_text) ∧ ((iv 41) = 0 → ((iv 38) = 2 → mns_L46 (mns_L18 post k) post x1 iv g_text) ∧ (¬ (iv 38) = 2 → (x1 = 0 → mns_L53 post x1 iv g_text) ∧ (¬ x1 = 0 → (¬ (iv 38) = 44 → mns_L53 post x1 iv g_text) ∧ ((iv 38) = 44 → mns_L46 (mns_L18 post k) post x1 iv g_text))))
def mns_L15 (post : (Nat → Int32) → (Nat → Int32) → Prop) (x1 : Int32) (y0 : Int32) (iv : Nat → Int32) (g_text : Nat → Int32) : Prop := mwa_wp (fun v5 v6 => ∃ j18, mns_L18 post j18 x1 v5 v6) y0 iv g_text
def mns_wp (post : (Nat → Int32) → (Nat → Int32) → Prop) (bx : Int32) (iv : Nat → Int32) (g_text : Nat → Int32) : Prop := (¬ (iv 38) = 123 → mns_L15 post bx 0 iv g_text) ∧ ((iv 38) = 123 → mns_L15 post bx 1 iv g_text)
set_option maxHeartbeats 8000000 in
set_option maxRecDepth 100000 in
theorem mns_met (l : Launch) (dC : Nat → ClassId) (dI : Nat → Nat → Nat) (sz : Nat) (h0 : Nat) (rf : Nat → Nat) (c_text : ClassId) (bx : Int32) (iv : Nat → Int32) (g_text : Nat → Int32) (post : (Nat → Int32) → (Nat → Int32) → Prop) (hw : mns_wp post bx iv g_text) : Met l px_y31 px_s31 ({ frames := 3, cells := 0, slots := 0, locals := 66 }) (va_Pc [.ref h0, .int bx] (fun U => U.heap.size = sz ∧ va_P (dC, dI) vwCl [(h0, .inr (8, px_mf rf iv)), (rf 36, .inl (c_text, 16384, .inl g_text))] U.heap ∧ va_K (dC, dI) vwCl [(c_text, .byte)] U ∧ va_D (fun _ => True) [(h0, .inr (8, px_mf rf iv)), (rf 36, .inl (c_text, 16384, .inl g_text))] ∧ px_N U)) (va_Qv (fun (u : (Nat → Int32) × (Nat → Int32)) => post u.1 u.2) (fun (u : (Nat → Int32) × (Nat → Int32)) (t : State) => va_P (dC, dI) vwCl [(h0, .inr (8, px_mf rf u.1)), (rf 36, .inl (c_text, 16384, .inl u.2))] t.heap ∧ va_K (dC, dI) vwCl [(c_text, .byte)] t ∧ va_D (va_A [(h0, .inr (8, px_mf rf iv)), (rf 36, .inl (c_text, 16384, .inl g_text))] sz) [(h0, .inr (8, px_mf rf u.1)), (rf 36, .inl (c_text, 16384, .inl u.2))]) (va_A [(h0, .inr (8, px_mf rf iv)), (rf 36, .inl (c_text, 16384, .inl g_text))] sz)) 0 0 (va_A [(h0, .inr (8, px_mf rf iv)), (rf 36, .inl (c_text, 16384, .inl g_text))] sz) := by
  refine Met.ofW (cc := prog_15_method_60_code) (maxL := 2) (ret := none) (by decide) rfl ?_
  intro p e s m args below meth c s₁ B hml hv
  obtain ⟨rfl, hsz, hP, hK, hD0, hN⟩ := hv
  have hx := B.exec
  have hb := B.bytes
  have hr := B.returns
  have htw : ∀ w ∈ px_all, w.before _ s = true := fun w h => atoms_spec (ws := px_s31) B.pre w (List.mem_cons_of_mem _ h)
  have hown : s.vm.findClass "MatroidDeskModel" = some m.cls := findClass_of_methodNamed B.named
  have hlocks := B.notSynchronized
  subst hsz
  have hD := hD0.self (sz := s.heap.size)
  generalize hAe : va_A [(h0, .inr (8, px_mf rf iv)), (rf 36, .inl (c_text, 16384, .inl g_text))] s.heap.size = A at hD ⊢
  have hA : ∀ q : Nat, s.heap.size ≤ q → A q := fun q h => by rw [← hAe]; exact Or.inr h
  have hS : va_S A s.heap s.heap [] := va_S.rf
  have hP : va_P (dC, dI) vwCl [(h0, .inr (8, px_mf rf iv)), (rf 36, .inl (c_text, 16384, .inl g_text))] s.heap := hP
  have hl := lv_entry ([.ref h0, .int bx]) (n := 2) (Nat.le_of_ble_eq_true rfl)
  rw [lg_entry_eq]
  generalize (lg_sl ([.ref h0, .int bx]) ++ List.replicate (2 - (lg_sl ([.ref h0, .int bx])).length) Slot.unset).toArray = ls at hl ⊢
  have hl : lv_has ls 2 [(0, .ref h0), (1, .int bx)] := hl
  generalize hQ : MQ _ _ _ _ _ _ _ = Q
  have S68 : ∀ (x1 : Int32) (y0 : Int32) (iv : Nat → Int32) (g_text : Nat → Int32) (H : Heap) (locs : List Loc) (ls : Array Slot), va_P (dC, dI) vwCl [(h0, .inr (8, px_mf rf iv)), (rf 36, .inl (c_text, 16384, .inl g_text))] H → va_D A [(h0, .inr (8, px_mf rf iv)), (rf 36, .inl (c_text, 16384, .inl g_text))] → va_S A s.heap H locs → lv_has ls 2 [(0, .ref h0), (1, .int x1)] → mns_L68 post x1 y0 iv g_text → W p l e (headSpec px_s31 ({ frames := 3, cells := 0, slots := 0, locals := 66 })).room s m ([.ref h0, .int bx]).toArray below meth c H locs 0 0 Q (F0 m 68 ls [.int y0, .ref h0]) := by
    intro x1 y0 iv g_text H locs ls hP hD hS hl hw
    unfold mns_L68 at hw
    have hPc := hP.sub (ws' := [(h0, .inr (8, px_mf rf iv)), (rf 36, .inl (c_text, 16384, .inl g_text))]) [0, 1] rfl
    have hDc := hD.sub (ws' := [(h0, .inr (8, px_mf rf iv)), (rf 36, .inl (c_text, 16384, .inl g_text))]) [0, 1] (by decide) rfl
    have hKc := hK.sub (tys' := [(c_text, .byte)]) [0] rfl
    have hFc := va_free (wc := [(h0, .inr (8, px_mf rf iv)), (rf 36, .inl (c_text, 16384, .inl g_text))]) hD hS hA [0, 1] rfl
    refine va_callv (va_runV (As := [.int y0]) (rest := []) ⟨hx, hb, hml, hown, htw⟩ (mwa_met l dC dI H.size h0 rf c_text y0 iv g_text _ hw) (cwV 1 htw (px_gv px_w350 px_w341 px_w342 px_w94 px_g28) rfl rfl rfl (by decide +kernel) ⟨Nat.le_of_ble_eq_true rfl, Nat.le_of_ble_eq_true rfl⟩) ⟨fun a U g mk q => by obtain ⟨q0, q1, qP, qK, qD, qN⟩ := q; exact ⟨q0, q1, qP, va_K.moved (u := U) (U := U.calling g mk a) (Vm.Alike.refl U.vm) qK, qD, qN.same rfl⟩, va_recv hK hP (ci := 8) (q0 := 0) rfl rfl, fun U hU hW => ⟨rfl, by rw [hU], by rw [hU]; exact hPc, va_K.moved hW.alike hKc, hDc.weaken (fun _ _ _ _ => trivial), hN.warm hW⟩⟩ rfl rfl hl.1 rfl (lv_room (Nat.le_of_ble_eq_true rfl)) px_d31_68 ⟨(Nat.le_of_ble_eq_true rfl), (Nat.le_of_ble_eq_true rfl)⟩) hS (fun q _ h => hFc q h) hFc (fun u t H1 locs ht hvm hw hB hz1 hk1 hS => ?_)
    obtain ⟨v1, v2⟩ := u
    obtain ⟨hP1, hK1, hD1⟩ := hB
    rw [ht] at hP1
    have hK1 := va_K.moved hvm.symm hK1
    obtain ⟨hP, hD⟩ := va_join (wr := []) (w1 := [(h0, .inr (8, px_mf rf v1)), (rf 36, .inl (c_text, 16384, .inl v2))]) hP hD [0, 1] [] rfl rfl (by decide) (by decide) hk1 hFc hP1 hD1
    generalize H1 = H at hP hS ⊢
    have hP : va_P (dC, dI) vwCl [(h0, .inr (8, px_mf rf v1)), (rf 36, .inl (c_text, 16384, .inl v2))] H := hP
    have hD : va_D A [(h0, .inr (8, px_mf rf v1)), (rf 36, .inl (c_text, 16384, .inl v2))] := hD
    rw [← hQ]
    exact W.vret hx hb hr (fun t ht hW => ⟨⟨(v1, v2), rfl, hw, by rw [ht]; exact hP, va_K.moved hW.alike hK, hD⟩, hS.F ht⟩) hS.2.2 px_d31_71
  have S53 : ∀ (x1 : Int32) (iv : Nat → Int32) (g_text : Nat → Int32) (H : Heap) (locs : List Loc) (ls : Array Slot), va_P (dC, dI) vwCl [(h0, .inr (8, px_mf rf iv)), (rf 36, .inl (c_text, 16384, .inl g_text))] H → va_D A [(h0, .inr (8, px_mf rf iv)), (rf 36, .inl (c_text, 16384, .inl g_text))] → va_S A s.heap H locs → lv_has ls 2 [(0, .ref h0), (1, .int x1)] → mns_L53 post x1 iv g_text → W p l e (headSpec px_s31 ({ frames := 3, cells := 0, slots := 0, locals := 66 })).room s m ([.ref h0, .int bx]).toArray below meth c H locs 0 0 Q (F0 m 53 ls []) := by
    intro x1 iv g_text H locs ls hP hD hS hl hw
    unfold mns_L53 at hw
    refine lv_aload_n hx hb px_d31_53 rfl (lv_at hl 0 rfl) ?_
    refine lv_aload_n hx hb px_d31_54 rfl (lv_at hl 0 rfl) ?_
    refine va_get (D := (dC, dI)) (ci := 8) (v := .int (iv 38)) (C := "MatroidDeskModel") (T := px_T8) (N := 53) hx hb htw px_in8 hown hK hP 0 rfl rfl 38 (by decide) (htw _ px_w331) (fun _ h9 => h9) rfl px_d31_55 ?_
    refine lv_bipush (v := 125) hx hb px_d31_58 (by decide) ?_
    refine lv_icmp_ne (tgt := 67) hx hb px_d31_60 (by decide) (fun c60 => ?_) (fun c60 => ?_)
    · have hw := hw.1 c60
      refine lv_iconst (v := 0) hx hb px_d31_67 (by decide) ?_
      exact S68 x1 0 iv g_text H locs ls hP hD hS (lv_sub hl [0, 1] rfl) hw
    · have hw := hw.2 c60
      refine lv_iconst (v := 1) hx hb px_d31_63 (by decide) ?_
      refine lv_goto (tgt := 68) hx hb px_d31_64 (by decide) ?_
      exact S68 x1 1 iv g_text H locs ls hP hD hS (lv_sub hl [0, 1] rfl) hw
  have S18 : ∀ (k18 : Nat) (x1 : Int32) (iv : Nat → Int32) (g_text : Nat → Int32) (H : Heap) (locs : List Loc) (ls : Array Slot), va_P (dC, dI) vwCl [(h0, .inr (8, px_mf rf iv)), (rf 36, .inl (c_text, 16384, .inl g_text))] H → va_D A [(h0, .inr (8, px_mf rf iv)), (rf 36, .inl (c_text, 16384, .inl g_text))] → va_S A s.heap H locs → lv_has ls 2 [(0, .ref h0), (1, .int x1)] → mns_L18 post k18 x1 iv g_text → W p l e (headSpec px_s31 ({ frames := 3, cells := 0, slots := 0, locals := 66 })).room s m ([.ref h0, .int bx]).toArray below meth c H locs 0 0 Q (F0 m 18 ls []) := by
    intro k18
    induction k18 with
    | zero => intro x1 iv g_text H locs ls hP hD hS hl hw; exact False.elim hw
    | succ k18 ih18 =>
      have S46 : ∀ (x1 : Int32) (iv : Nat → Int32) (g_text : Nat → Int32) (H : Heap) (locs : List Loc) (ls : Array Slot), va_P (dC, dI) vwCl [(h0, .inr (8, px_mf rf iv)), (rf 36, .inl (c_text, 16384, .inl g_text))] H → va_D A [(h0, .inr (8, px_mf rf iv)), (rf 36, .inl (c_text, 16384, .inl g_text))] → va_S A s.heap H locs → lv_has ls 2 [(0, .ref h0), (1, .int x1)] → mns_L46 (mns_L18 post k18) post x1 iv g_text → W p l e (headSpec px_s31 ({ frames := 3, cells := 0, slots := 0, locals := 66 })).room s m ([.ref h0, .int bx]).toArray below meth c H locs 0 0 Q (F0 m 46 ls []) := by
        intro x1 iv g_text H locs ls hP hD hS hl hw
        unfold mns_L46 at hw
        refine lv_aload_n hx hb px_d31_46 rfl (lv_at hl 0 rfl) ?_
        have hPc := hP.sub (ws' := [(h0, .inr (8, px_mf rf iv)), (rf 36, .inl (c_text, 16384, .inl g_text))]) [0, 1] rfl
        have hDc := hD.sub (ws' := [(h0, .inr (8, px_mf rf iv)), (rf 36, .inl (c_text, 16384, .inl g_text))]) [0, 1] (by decide) rfl
        have hKc := hK.sub (tys' := [(c_text, .byte)]) [0] rfl
        have hFc := va_free (wc := [(h0, .inr (8, px_mf rf iv)), (rf 36, .inl (c_text, 16384, .inl g_text))]) hD hS hA [0, 1] rfl
        refine va_callv (va_runV (As := []) (rest := []) ⟨hx, hb, hml, hown, htw⟩ (mnx_met l dC dI H.size h0 rf c_text iv g_text _ hw) (cwV 0 htw (px_gv px_w345 px_w326 px_w327 px_w94 px_g25) rfl rfl rfl (by decide +kernel) ⟨Nat.le_of_ble_eq_true rfl, Nat.le_of_ble_eq_true rfl⟩) ⟨fun a U g mk q => by obtain ⟨q0, q1, qP, qK, qD, qN⟩ := q; exact ⟨q0, q1, qP, va_K.moved (u := U) (U := U.calling g mk a) (Vm.Alike.refl U.vm) qK, qD, qN.same rfl⟩, va_recv hK hP (ci := 8) (q0 := 0) rfl rfl, fun U hU hW => ⟨rfl, by rw [hU], by rw [hU]; exact hPc, va_K.moved hW.alike hKc, hDc.weaken (fun _ _ _ _ => trivial), hN.warm hW⟩⟩ rfl rfl hl.1 rfl (lv_room (Nat.le_of_ble_eq_true rfl)) px_d31_47 ⟨(Nat.le_of_ble_eq_true rfl), (Nat.le_of_ble_eq_true rfl)⟩) hS (fun q _ h => hFc q h) hFc (fun u t H1 locs ht hvm hw hB hz1 hk1 hS => ?_)
        obtain ⟨v3, v4⟩ := u
        obtain ⟨hP1, hK1, hD1⟩ := hB
        rw [ht] at hP1
        have hK1 := va_K.moved hvm.symm hK1
        obtain ⟨hP, hD⟩ := va_join (wr := []) (w1 := [(h0, .inr (8, px_mf rf v3)), (rf 36, .inl (c_text, 16384, .inl v4))]) hP hD [0, 1] [] rfl rfl (by decide) (by decide) hk1 hFc hP1 hD1
        generalize H1 = H at hP hS ⊢
        have hP : va_P (dC, dI) vwCl [(h0, .inr (8, px_mf rf v3)), (rf 36, .inl (c_text, 16384, .inl v4))] H := hP
        have hD : va_D A [(h0, .inr (8, px_mf rf v3)), (rf 36, .inl (c_text, 16384, .inl v4))] := hD
        refine lv_goto (tgt := 18) hx hb px_d31_50 (by decide) ?_
        exact ih18 x1 v3 v4 H locs ls hP hD hS (lv_sub hl [0, 1] rfl) hw
      intro x1 iv g_text H locs ls hP hD hS hl hw
      unfold mns_L18 at hw
      refine lv_aload_n hx hb px_d31_18 rfl (lv_at hl 0 rfl) ?_
      refine va_get (D := (dC, dI)) (ci := 8) (v := .int (iv 41)) (C := "MatroidDeskModel") (T := px_T8) (N := 53) hx hb htw px_in8 hown hK hP 0 rfl rfl 41 (by decide) (htw _ px_w343) (fun _ h9 => h9) rfl px_d31_19 ?_
      refine lv_if_ne (tgt := 53) hx hb px_d31_22 (by decide) (fun c22 => ?_) (fun c22 => ?_)
      · have hw := hw.1 c22
        exact S53 x1 iv g_text H locs ls hP hD hS (lv_sub hl [0, 1] rfl) hw
      · have hw := hw.2 c22
        refine lv_aload_n hx hb px_d31_25 rfl (lv_at hl 0 rfl) ?_
        refine va_get (D := (dC, dI)) (ci := 8) (v := .int (iv 38)) (C := "MatroidDeskModel") (T := px_T8) (N := 53) hx hb htw px_in8 hown hK hP 0 rfl rfl 38 (by decide) (htw _ px_w331) (fun _ h9 => h9) rfl px_d31_26 ?_
        refine lv_iconst (v := 2) hx hb px_d31_29 (by decide) ?_
        refine lv_icmp_eq (tgt := 46) hx hb px_d31_30 (by decide) (fun c30 => ?_) (fun c30 => ?_)
        · have hw := hw.1 c30
          exact S46 x1 iv g_text H locs ls hP hD hS (lv_sub hl [0, 1] rfl) hw
        · have hw := hw.2 c30
          refine lv_iload_n hx hb px_d31_33 rfl (lv_at hl 1 rfl) ?_
          refine lv_if_eq (tgt := 53) hx hb px_d31_34 (by decide) (fun c34 => ?_) (fun c34 => ?_)
          · have hw := hw.1 c34
            exact S53 x1 iv g_text H locs ls hP hD hS (lv_sub hl [0, 1] rfl) hw
          · have hw := hw.2 c34
            refine lv_aload_n hx hb px_d31_37 rfl (lv_at hl 0 rfl) ?_
            refine va_get (D := (dC, dI)) (ci := 8) (v := .int (iv 38)) (C := "MatroidDeskModel") (T := px_T8) (N := 53) hx hb htw px_in8 hown hK hP 0 rfl rfl 38 (by decide) (htw _ px_w331) (fun _ h9 => h9) rfl px_d31_38 ?_
            refine lv_bipush (v := 44) hx hb px_d31_41 (by decide) ?_
            refine lv_icmp_ne (tgt := 53) hx hb px_d31_43 (by decide) (fun c43 => ?_) (fun c43 => ?_)
            · have hw := hw.1 c43
              exact S53 x1 iv g_text H locs ls hP hD hS (lv_sub hl [0, 1] rfl) hw
            · have hw := hw.2 c43
              exact S46 x1 iv g_text H locs ls hP hD hS (lv_sub hl [0, 1] rfl) hw
  have S15 : ∀ (x1 : Int32) (y0 : Int32) (iv : Nat → Int32) (g_text : Nat → Int32) (H : Heap) (locs : List Loc) (ls : Array Slot), va_P (dC, dI) vwCl [(h0, .inr (8, px_mf rf iv)), (rf 36, .inl (c_text, 16384, .inl g_text))] H → va_D A [(h0, .inr (8, px_mf rf iv)), (rf 36, .inl (c_text, 16384, .inl g_text))] → va_S A s.heap H locs → lv_has ls 2 [(0, .ref h0), (1, .int x1)] → mns_L15 post x1 y0 iv g_text → W p l e (headSpec px_s31 ({ frames := 3, cells := 0, slots := 0, locals := 66 })).room s m ([.ref h0, .int bx]).toArray below meth c H locs 0 0 Q (F0 m 15 ls [.int y0, .ref h0]) := by
    intro x1 y0 iv g_text H locs ls hP hD hS hl hw
    unfold mns_L15 at hw
    have hPc := hP.sub (ws' := [(h0, .inr (8, px_mf rf iv)), (rf 36, .inl (c_text, 16384, .inl g_text))]) [0, 1] rfl
    have hDc := hD.sub (ws' := [(h0, .inr (8, px_mf rf iv)), (rf 36, .inl (c_text, 16384, .inl g_text))]) [0, 1] (by decide) rfl
    have hKc := hK.sub (tys' := [(c_text, .byte)]) [0] rfl
    have hFc := va_free (wc := [(h0, .inr (8, px_mf rf iv)), (rf 36, .inl (c_text, 16384, .inl g_text))]) hD hS hA [0, 1] rfl
    refine va_callv (va_runV (As := [.int y0]) (rest := []) ⟨hx, hb, hml, hown, htw⟩ (mwa_met l dC dI H.size h0 rf c_text y0 iv g_text _ hw) (cwV 1 htw (px_gv px_w350 px_w341 px_w342 px_w94 px_g28) rfl rfl rfl (by decide +kernel) ⟨Nat.le_of_ble_eq_true rfl, Nat.le_of_ble_eq_true rfl⟩) ⟨fun a U g mk q => by obtain ⟨q0, q1, qP, qK, qD, qN⟩ := q; exact ⟨q0, q1, qP, va_K.moved (u := U) (U := U.calling g mk a) (Vm.Alike.refl U.vm) qK, qD, qN.same rfl⟩, va_recv hK hP (ci := 8) (q0 := 0) rfl rfl, fun U hU hW => ⟨rfl, by rw [hU], by rw [hU]; exact hPc, va_K.moved hW.alike hKc, hDc.weaken (fun _ _ _ _ => trivial), hN.warm hW⟩⟩ rfl rfl hl.1 rfl (lv_room (Nat.le_of_ble_eq_true rfl)) px_d31_15 ⟨(Nat.le_of_ble_eq_true rfl), (Nat.le_of_ble_eq_true rfl)⟩) hS (fun q _ h => hFc q h) hFc (fun u t H1 locs ht hvm hw hB hz1 hk1 hS => ?_)
    obtain ⟨v5, v6⟩ := u
    obtain ⟨hP1, hK1, hD1⟩ := hB
    rw [ht] at hP1
    have hK1 := va_K.moved hvm.symm hK1
    obtain ⟨hP, hD⟩ := va_join (wr := []) (w1 := [(h0, .inr (8, px_mf rf v5)), (rf 36, .inl (c_text, 16384, .inl v6))]) hP hD [0, 1] [] rfl rfl (by decide) (by decide) hk1 hFc hP1 hD1
    generalize H1 = H at hP hS ⊢
    have hP : va_P (dC, dI) vwCl [(h0, .inr (8, px_mf rf v5)), (rf 36, .inl (c_text, 16384, .inl v6))] H := hP
    have hD : va_D A [(h0, .inr (8, px_mf rf v5)), (rf 36, .inl (c_text, 16384, .inl v6))] := hD
    obtain ⟨k9, hw⟩ := hw
    exact S18 k9 x1 v5 v6 H locs ls hP hD hS (lv_sub hl [0, 1] rfl) hw
  unfold mns_wp at hw
  have hS0 := hS
  obtain ⟨H, hH9⟩ : ∃ z, z = s.heap := ⟨_, rfl⟩
  have hP : va_P (dC, dI) vwCl [(h0, .inr (8, px_mf rf iv)), (rf 36, .inl (c_text, 16384, .inl g_text))] H := by rw [hH9]; exact hP
  obtain ⟨locs, hlo9⟩ : ∃ z : List Loc, z = [] := ⟨_, rfl⟩
  have hS : va_S A s.heap H locs := by rw [hH9, hlo9]; exact hS
  suffices hG : W p l e (headSpec px_s31 ({ frames := 3, cells := 0, slots := 0, locals := 66 })).room s m ([.ref h0, .int bx]).toArray below meth c H locs 0 0 Q (F0 m 0 ls []) by rw [hH9, hlo9] at hG; exact hG
  refine lv_aload_n hx hb px_d31_0 rfl (lv_at hl 0 rfl) ?_
  refine lv_aload_n hx hb px_d31_1 rfl (lv_at hl 0 rfl) ?_
  refine va_get (D := (dC, dI)) (ci := 8) (v := .int (iv 38)) (C := "MatroidDeskModel") (T := px_T8) (N := 53) hx hb htw px_in8 hown hK hP 0 rfl rfl 38 (by decide) (htw _ px_w331) (fun _ h9 => h9) rfl px_d31_2 ?_
  refine lv_bipush (v := 123) hx hb px_d31_5 (by decide) ?_
  refine lv_icmp_ne (tgt := 14) hx hb px_d31_7 (by decide) (fun c7 => ?_) (fun c7 => ?_)
  · have hw := hw.1 c7
    refine lv_iconst (v := 0) hx hb px_d31_14 (by decide) ?_
    exact S15 bx 0 iv g_text H locs ls hP hD hS (lv_sub hl [0, 1] rfl) hw
  · have hw := hw.2 c7
    refine lv_iconst (v := 1) hx hb px_d31_10 (by decide) ?_
    refine lv_goto (tgt := 15) hx hb px_d31_11 (by decide) ?_
    exact S15 bx 1 iv g_text H locs ls hP hD hS (lv_sub hl [0, 1] rfl) hw

def med_L106 (post : (Nat → Int32) → (Nat → Int32) → Prop) (x1 : Int32) (y0 : Int32) (iv : Nat → Int32) (g_text : Nat → Int32) : Prop := mwa_wp (fun v1 v2 => post v1 v2) y0 iv g_text
def med_L91 (post : (Nat → Int32) → (Nat → Int32) → Prop) (x1 : Int32) (iv : Nat → Int32) (g_text : Nat → Int32) : Prop := (¬ (iv 38) = 125 → med_L106 post x1 0 iv g_text) ∧ ((iv 38) = 125 → med_L106 post x1 1 iv g_text)
def med_L79 (K39 : Int32 → (Nat → Int32) → (Nat → Int32) → Prop) (post : (Nat → Int32) → (Nat → Int32) → Prop) (x1 : Int32) (y0 : Int32) (iv : Nat → Int32) (g_text : Nat → Int32) : Prop := (y0 = 0 → K39 y0 iv g_text) ∧ (¬ y0 = 0 → mnx_wp (fun v3 v4 => K39 y0 v3 v4) iv g_text)
def med_L78 (K39 : Int32 → (Nat → Int32) → (Nat → Int32) → Prop) (post : (Nat → Int32) → (Nat → Int32) → Prop) (x1 : Int32) (iv : Nat → Int32) (g_text : Nat → Int32) : Prop := med_L79 K39 post x1 0 iv g_text
def med_L39 (post : (Nat → Int32) → (Nat → Int32) → Prop) : Nat → Int32 → (Nat → Int32) → (Nat → Int32) → Prop
  | 0 => fun _ _ _ => False
  | k + 1 => fun x1 iv g_text => (x1 = 0 → med_L91 post x1 iv g_text) ∧ (¬ x1 = 0 → (¬ (iv 41) = 0 → med_L91 post x1 iv g_text) ∧ ((iv 41) = 0 → mnu_wp (fun v5 v6 => mnu_wp (fun v7 v8 => (¬ (v7 41) = 0 → med_L78 (med_L39 post k) post x1 v7 v8) ∧ ((v7 41) = 0 → (¬ (v7 38) = 44 → med_L78 (med_L39 post k) post x1 v7 v8) ∧ ((v7 38) = 44 → med_L79 (med_L39 post k) post x1 1 v7 v8))) v5 v6) iv g_text))
def med_L38 (post : (Nat → Int32) → (Nat → Int32) → Prop) (y0 : Int32) (iv : Nat → Int32) (g_text : Nat → Int32) : Prop := ∃ j39, med_L39 post j39 y0 iv g_text
def med_L37 (post : (Nat → Int32) → (Nat → Int32) → Prop) (iv : Nat → Int32) (g_text : Nat → Int32) : Prop := med_L38 post 0 iv g_text
def med_L15 (post : (Nat → Int32) → (Nat → Int32) → Prop) (y0 : Int32) (iv : Nat → Int32) (g_text : Nat → Int32) : Prop := mwa_wp (fun v9 v10 => (¬ (v9 41) = 0 → med_L37 post v9 v10) ∧ ((v9 41) = 0 → (¬ (v9 38) = 2 → med_L37 post v9 v10) ∧ ((v9 38) = 2 → med_L38 post 1 v9 v10))) y0 iv g_text
def med_wp (post : (Nat → Int32) → (Nat → Int32) → Prop) (iv : Nat → Int32) (g_text : Nat → Int32) : Prop := (¬ (iv 38) = 123 → med_L15 post 0 iv g_text) ∧ ((iv 38) = 123 → med_L15 post 1 iv g_text)
set_option maxHeartbeats 8000000 in
set_option maxRecDepth 100000 in
theorem med_met (l : Launch) (dC : Nat → ClassId) (dI : Nat → Nat → Nat) (sz : Nat) (h0 : Nat) (rf : Nat → Nat) (c_text : ClassId) (iv : Nat → Int32) (g_text : Nat → Int32) (post : (Nat → Int32) → (Nat → Int32) → Prop) (hw : med_wp post iv g_text) : Met l px_y32 px_s32 ({ frames := 4, cells := 0, slots := 0, locals := 86 }) (va_Pc [.ref h0] (fun U => U.heap.size = sz ∧ va_P (dC, dI) vwCl [(h0, .inr (8, px_mf rf iv)), (rf 36, .inl (c_text, 16384, .inl g_text))] U.heap ∧ va_K (dC, dI) vwCl [(c_text, .byte)] U ∧ va_D (fun _ => True) [(h0, .inr (8, px_mf rf iv)), (rf 36, .inl (c_text, 16384, .inl g_text))] ∧ px_N U)) (va_Qv (fun (u : (Nat → Int32) × (Nat → Int32)) => post u.1 u.2) (fun (u : (Nat → Int32) × (Nat → Int32)) (t : State) => va_P (dC, dI) vwCl [(h0, .inr (8, px_mf rf u.1)), (rf 36, .inl (c_text, 16384, .inl u.2))] t.heap ∧ va_K (dC, dI) vwCl [(c_text, .byte)] t ∧ va_D (va_A [(h0, .inr (8, px_mf rf iv)), (rf 36, .inl (c_text, 16384, .inl g_text))] sz) [(h0, .inr (8, px_mf rf u.1)), (rf 36, .inl (c_text, 16384, .inl u.2))]) (va_A [(h0, .inr (8, px_mf rf iv)), (rf 36, .inl (c_text, 16384, .inl g_text))] sz)) 0 0 (va_A [(h0, .inr (8, px_mf rf iv)), (rf 36, .inl (c_text, 16384, .inl g_text))] sz) := by
  refine Met.ofW (cc := prog_15_method_61_code) (maxL := 2) (ret := none) (by decide) rfl ?_
  intro p e s m args below meth c s₁ B hml hv
  obtain ⟨rfl, hsz, hP, hK, hD0, hN⟩ := hv
  have hx := B.exec
  have hb := B.bytes
  have hr := B.returns
  have htw : ∀ w ∈ px_all, w.before _ s = true := fun w h => atoms_spec (ws := px_s32) B.pre w (List.mem_cons_of_mem _ h)
  have hown : s.vm.findClass "MatroidDeskModel" = some m.cls := findClass_of_methodNamed B.named
  have hlocks := B.notSynchronized
  subst hsz
  have hD := hD0.self (sz := s.heap.size)
  generalize hAe : va_A [(h0, .inr (8, px_mf rf iv)), (rf 36, .inl (c_text, 16384, .inl g_text))] s.heap.size = A at hD ⊢
  have hA : ∀ q : Nat, s.heap.size ≤ q → A q := fun q h => by rw [← hAe]; exact Or.inr h
  have hS : va_S A s.heap s.heap [] := va_S.rf
  have hP : va_P (dC, dI) vwCl [(h0, .inr (8, px_mf rf iv)), (rf 36, .inl (c_text, 16384, .inl g_text))] s.heap := hP
  have hl := lv_entry ([.ref h0]) (n := 2) (Nat.le_of_ble_eq_true rfl)
  rw [lg_entry_eq]
  generalize (lg_sl ([.ref h0]) ++ List.replicate (2 - (lg_sl ([.ref h0])).length) Slot.unset).toArray = ls at hl ⊢
  have hl : lv_has ls 2 [(0, .ref h0)] := hl
  generalize hQ : MQ _ _ _ _ _ _ _ = Q
  have S106 : ∀ (x1 : Int32) (y0 : Int32) (iv : Nat → Int32) (g_text : Nat → Int32) (H : Heap) (locs : List Loc) (ls : Array Slot), va_P (dC, dI) vwCl [(h0, .inr (8, px_mf rf iv)), (rf 36, .inl (c_text, 16384, .inl g_text))] H → va_D A [(h0, .inr (8, px_mf rf iv)), (rf 36, .inl (c_text, 16384, .inl g_text))] → va_S A s.heap H locs → lv_has ls 2 [(0, .ref h0), (1, .int x1)] → med_L106 post x1 y0 iv g_text → W p l e (headSpec px_s32 ({ frames := 4, cells := 0, slots := 0, locals := 86 })).room s m ([.ref h0]).toArray below meth c H locs 0 0 Q (F0 m 106 ls [.int y0, .ref h0]) := by
    intro x1 y0 iv g_text H locs ls hP hD hS hl hw
    unfold med_L106 at hw
    have hPc := hP.sub (ws' := [(h0, .inr (8, px_mf rf iv)), (rf 36, .inl (c_text, 16384, .inl g_text))]) [0, 1] rfl
    have hDc := hD.sub (ws' := [(h0, .inr (8, px_mf rf iv)), (rf 36, .inl (c_text, 16384, .inl g_text))]) [0, 1] (by decide) rfl
    have hKc := hK.sub (tys' := [(c_text, .byte)]) [0] rfl
    have hFc := va_free (wc := [(h0, .inr (8, px_mf rf iv)), (rf 36, .inl (c_text, 16384, .inl g_text))]) hD hS hA [0, 1] rfl
    refine va_callv (va_runV (As := [.int y0]) (rest := []) ⟨hx, hb, hml, hown, htw⟩ (mwa_met l dC dI H.size h0 rf c_text y0 iv g_text _ hw) (cwV 1 htw (px_gv px_w350 px_w341 px_w342 px_w94 px_g28) rfl rfl rfl (by decide +kernel) ⟨Nat.le_of_ble_eq_true rfl, Nat.le_of_ble_eq_true rfl⟩) ⟨fun a U g mk q => by obtain ⟨q0, q1, qP, qK, qD, qN⟩ := q; exact ⟨q0, q1, qP, va_K.moved (u := U) (U := U.calling g mk a) (Vm.Alike.refl U.vm) qK, qD, qN.same rfl⟩, va_recv hK hP (ci := 8) (q0 := 0) rfl rfl, fun U hU hW => ⟨rfl, by rw [hU], by rw [hU]; exact hPc, va_K.moved hW.alike hKc, hDc.weaken (fun _ _ _ _ => trivial), hN.warm hW⟩⟩ rfl rfl hl.1 rfl (lv_room (Nat.le_of_ble_eq_true rfl)) px_d32_106 ⟨(Nat.le_of_ble_eq_true rfl), (Nat.le_of_ble_eq_true rfl)⟩) hS (fun q _ h => hFc q h) hFc (fun u t H1 locs ht hvm hw hB hz1 hk1 hS => ?_)
    obtain ⟨v1, v2⟩ := u
    obtain ⟨hP1, hK1, hD1⟩ := hB
    rw [ht] at hP1
    have hK1 := va_K.moved hvm.symm hK1
    obtain ⟨hP, hD⟩ := va_join (wr := []) (w1 := [(h0, .inr (8, px_mf rf v1)), (rf 36, .inl (c_text, 16384, .inl v2))]) hP hD [0, 1] [] rfl rfl (by decide) (by decide) hk1 hFc hP1 hD1
    generalize H1 = H at hP hS ⊢
    have hP : va_P (dC, dI) vwCl [(h0, .inr (8, px_mf rf v1)), (rf 36, .inl (c_text, 16384, .inl v2))] H := hP
    have hD : va_D A [(h0, .inr (8, px_mf rf v1)), (rf 36, .inl (c_text, 16384, .inl v2))] := hD
    rw [← hQ]
    exact W.vret hx hb hr (fun t ht hW => ⟨⟨(v1, v2), rfl, hw, by rw [ht]; exact hP, va_K.moved hW.alike hK, hD⟩, hS.F ht⟩) hS.2.2 px_d32_109
  have S91 : ∀ (x1 : Int32) (iv : Nat → Int32) (g_text : Nat → Int32) (H : Heap) (locs : List Loc) (ls : Array Slot), va_P (dC, dI) vwCl [(h0, .inr (8, px_mf rf iv)), (rf 36, .inl (c_text, 16384, .inl g_text))] H → va_D A [(h0, .inr (8, px_mf rf iv)), (rf 36, .inl (c_text, 16384, .inl g_text))] → va_S A s.heap H locs → lv_has ls 2 [(0, .ref h0), (1, .int x1)] → med_L91 post x1 iv g_text → W p l e (headSpec px_s32 ({ frames := 4, cells := 0, slots := 0, locals := 86 })).room s m ([.ref h0]).toArray below meth c H locs 0 0 Q (F0 m 91 ls []) := by
    intro x1 iv g_text H locs ls hP hD hS hl hw
    unfold med_L91 at hw
    refine lv_aload_n hx hb px_d32_91 rfl (lv_at hl 0 rfl) ?_
    refine lv_aload_n hx hb px_d32_92 rfl (lv_at hl 0 rfl) ?_
    refine va_get (D := (dC, dI)) (ci := 8) (v := .int (iv 38)) (C := "MatroidDeskModel") (T := px_T8) (N := 53) hx hb htw px_in8 hown hK hP 0 rfl rfl 38 (by decide) (htw _ px_w331) (fun _ h9 => h9) rfl px_d32_93 ?_
    refine lv_bipush (v := 125) hx hb px_d32_96 (by decide) ?_
    refine lv_icmp_ne (tgt := 105) hx hb px_d32_98 (by decide) (fun c98 => ?_) (fun c98 => ?_)
    · have hw := hw.1 c98
      refine lv_iconst (v := 0) hx hb px_d32_105 (by decide) ?_
      exact S106 x1 0 iv g_text H locs ls hP hD hS (lv_sub hl [0, 1] rfl) hw
    · have hw := hw.2 c98
      refine lv_iconst (v := 1) hx hb px_d32_101 (by decide) ?_
      refine lv_goto (tgt := 106) hx hb px_d32_102 (by decide) ?_
      exact S106 x1 1 iv g_text H locs ls hP hD hS (lv_sub hl [0, 1] rfl) hw
  have S39 : ∀ (k39 : Nat) (x1 : Int32) (iv : Nat → Int32) (g_text : Nat → Int32) (H : Heap) (locs : List Loc) (ls : Array Slot), va_P (dC, dI) vwCl [(h0, .inr (8, px_mf rf iv)), (rf 36, .inl (c_text, 16384, .inl g_text))] H → va_D A [(h0, .inr (8, px_mf rf iv)), (rf 36, .inl (c_text, 16384, .inl g_text))] → va_S A s.heap H locs → lv_has ls 2 [(0, .ref h0), (1, .int x1)] → med_L39 post k39 x1 iv g_text → W p l e (headSpec px_s32 ({ frames := 4, cells := 0, slots := 0, locals := 86 })).room s m ([.ref h0]).toArray below meth c H locs 0 0 Q (F0 m 39 ls []) := by
    intro k39
    induction k39 with
    | zero => intro x1 iv g_text H locs ls hP hD hS hl hw; exact False.elim hw
    | succ k39 ih39 =>
      have S79 : ∀ (x1 : Int32) (y0 : Int32) (iv : Nat → Int32) (g_text : Nat → Int32) (H : Heap) (locs : List Loc) (ls : Array Slot), va_P (dC, dI) vwCl [(h0, .inr (8, px_mf rf iv)), (rf 36, .inl (c_text, 16384, .inl g_text))] H → va_D A [(h0, .inr (8, px_mf rf iv)), (rf 36, .inl (c_text, 16384, .inl g_text))] → va_S A s.heap H locs → lv_has ls 2 [(0, .ref h0), (1, .int x1)] → med_L79 (med_L39 post k39) post x1 y0 iv g_text → W p l e (headSpec px_s32 ({ frames := 4, cells := 0, slots := 0, locals := 86 })).room s m ([.ref h0]).toArray below meth c H locs 0 0 Q (F0 m 79 ls [.int y0]) := by
        intro x1 y0 iv g_text H locs ls hP hD hS hl hw
        unfold med_L79 at hw
        refine lv_istore_n (lv' := [(1, .int y0), (0, .ref h0)]) hx hb px_d32_79 rfl hl (by decide) rfl (fun ls hl => ?_)
        refine lv_iload_n hx hb px_d32_80 rfl (lv_at hl 0 rfl) ?_
        refine lv_if_eq (tgt := 39) hx hb px_d32_81 (by decide) (fun c81 => ?_) (fun c81 => ?_)
        · have hw := hw.1 c81
          exact ih39 y0 iv g_text H locs ls hP hD hS (lv_sub hl [1, 0] rfl) hw
        · have hw := hw.2 c81
          refine lv_aload_n hx hb px_d32_84 rfl (lv_at hl 1 rfl) ?_
          have hPc := hP.sub (ws' := [(h0, .inr (8, px_mf rf iv)), (rf 36, .inl (c_text, 16384, .inl g_text))]) [0, 1] rfl
          have hDc := hD.sub (ws' := [(h0, .inr (8, px_mf rf iv)), (rf 36, .inl (c_text, 16384, .inl g_text))]) [0, 1] (by decide) rfl
          have hKc := hK.sub (tys' := [(c_text, .byte)]) [0] rfl
          have hFc := va_free (wc := [(h0, .inr (8, px_mf rf iv)), (rf 36, .inl (c_text, 16384, .inl g_text))]) hD hS hA [0, 1] rfl
          refine va_callv (va_runV (As := []) (rest := []) ⟨hx, hb, hml, hown, htw⟩ (mnx_met l dC dI H.size h0 rf c_text iv g_text _ hw) (cwV 0 htw (px_gv px_w345 px_w326 px_w327 px_w94 px_g25) rfl rfl rfl (by decide +kernel) ⟨Nat.le_of_ble_eq_true rfl, Nat.le_of_ble_eq_true rfl⟩) ⟨fun a U g mk q => by obtain ⟨q0, q1, qP, qK, qD, qN⟩ := q; exact ⟨q0, q1, qP, va_K.moved (u := U) (U := U.calling g mk a) (Vm.Alike.refl U.vm) qK, qD, qN.same rfl⟩, va_recv hK hP (ci := 8) (q0 := 0) rfl rfl, fun U hU hW => ⟨rfl, by rw [hU], by rw [hU]; exact hPc, va_K.moved hW.alike hKc, hDc.weaken (fun _ _ _ _ => trivial), hN.warm hW⟩⟩ rfl rfl hl.1 rfl (lv_room (Nat.le_of_ble_eq_true rfl)) px_d32_85 ⟨(Nat.le_of_ble_eq_true rfl), (Nat.le_of_ble_eq_true rfl)⟩) hS (fun q _ h => hFc q h) hFc (fun u t H1 locs ht hvm hw hB hz1 hk1 hS => ?_)
          obtain ⟨v3, v4⟩ := u
          obtain ⟨hP1, hK1, hD1⟩ := hB
          rw [ht] at hP1
          have hK1 := va_K.moved hvm.symm hK1
          obtain ⟨hP, hD⟩ := va_join (wr := []) (w1 := [(h0, .inr (8, px_mf rf v3)), (rf 36, .inl (c_text, 16384, .inl v4))]) hP hD [0, 1] [] rfl rfl (by decide) (by decide) hk1 hFc hP1 hD1
          generalize H1 = H at hP hS ⊢
          have hP : va_P (dC, dI) vwCl [(h0, .inr (8, px_mf rf v3)), (rf 36, .inl (c_text, 16384, .inl v4))] H := hP
          have hD : va_D A [(h0, .inr (8, px_mf rf v3)), (rf 36, .inl (c_text, 16384, .inl v4))] := hD
          refine lv_goto (tgt := 39) hx hb px_d32_88 (by decide) ?_
          exact ih39 y0 v3 v4 H locs ls hP hD hS (lv_sub hl [1, 0] rfl) hw
      have S78 : ∀ (x1 : Int32) (iv : Nat → Int32) (g_text : Nat → Int32) (H : Heap) (locs : List Loc) (ls : Array Slot), va_P (dC, dI) vwCl [(h0, .inr (8, px_mf rf iv)), (rf 36, .inl (c_text, 16384, .inl g_text))] H → va_D A [(h0, .inr (8, px_mf rf iv)), (rf 36, .inl (c_text, 16384, .inl g_text))] → va_S A s.heap H locs → lv_has ls 2 [(0, .ref h0), (1, .int x1)] → med_L78 (med_L39 post k39) post x1 iv g_text → W p l e (headSpec px_s32 ({ frames := 4, cells := 0, slots := 0, locals := 86 })).room s m ([.ref h0]).toArray below meth c H locs 0 0 Q (F0 m 78 ls []) := by
        intro x1 iv g_text H locs ls hP hD hS hl hw
        unfold med_L78 at hw
        refine lv_iconst (v := 0) hx hb px_d32_78 (by decide) ?_
        exact S79 x1 0 iv g_text H locs ls hP hD hS (lv_sub hl [0, 1] rfl) hw
      intro x1 iv g_text H locs ls hP hD hS hl hw
      unfold med_L39 at hw
      refine lv_iload_n hx hb px_d32_39 rfl (lv_at hl 1 rfl) ?_
      refine lv_if_eq (tgt := 91) hx hb px_d32_40 (by decide) (fun c40 => ?_) (fun c40 => ?_)
      · have hw := hw.1 c40
        exact S91 x1 iv g_text H locs ls hP hD hS (lv_sub hl [0, 1] rfl) hw
      · have hw := hw.2 c40
        refine lv_aload_n hx hb px_d32_43 rfl (lv_at hl 0 rfl) ?_
        refine va_get (D := (dC, dI)) (ci := 8) (v := .int (iv 41)) (C := "MatroidDeskModel") (T := px_T8) (N := 53) hx hb htw px_in8 hown hK hP 0 rfl rfl 41 (by decide) (htw _ px_w343) (fun _ h9 => h9) rfl px_d32_44 ?_
        refine lv_if_ne (tgt := 91) hx hb px_d32_47 (by decide) (fun c47 => ?_) (fun c47 => ?_)
        · have hw := hw.1 c47
          exact S91 x1 iv g_text H locs ls hP hD hS (lv_sub hl [0, 1] rfl) hw
        · have hw := hw.2 c47
          refine lv_aload_n hx hb px_d32_50 rfl (lv_at hl 0 rfl) ?_
          have hPc := hP.sub (ws' := [(h0, .inr (8, px_mf rf iv)), (rf 36, .inl (c_text, 16384, .inl g_text))]) [0, 1] rfl
          have hDc := hD.sub (ws' := [(h0, .inr (8, px_mf rf iv)), (rf 36, .inl (c_text, 16384, .inl g_text))]) [0, 1] (by decide) rfl
          have hKc := hK.sub (tys' := [(c_text, .byte)]) [0] rfl
          have hFc := va_free (wc := [(h0, .inr (8, px_mf rf iv)), (rf 36, .inl (c_text, 16384, .inl g_text))]) hD hS hA [0, 1] rfl
          refine va_callv (va_runV (As := []) (rest := []) ⟨hx, hb, hml, hown, htw⟩ (mnu_met l dC dI H.size h0 rf c_text iv g_text _ hw) (cwV 0 htw (px_gv px_w360 px_w352 px_w353 px_w94 px_g30) rfl rfl rfl (by decide +kernel) ⟨Nat.le_of_ble_eq_true rfl, Nat.le_of_ble_eq_true rfl⟩) ⟨fun a U g mk q => by obtain ⟨q0, q1, qP, qK, qD, qN⟩ := q; exact ⟨q0, q1, qP, va_K.moved (u := U) (U := U.calling g mk a) (Vm.Alike.refl U.vm) qK, qD, qN.same rfl⟩, va_recv hK hP (ci := 8) (q0 := 0) rfl rfl, fun U hU hW => ⟨rfl, by rw [hU], by rw [hU]; exact hPc, va_K.moved hW.alike hKc, hDc.weaken (fun _ _ _ _ => trivial), hN.warm hW⟩⟩ rfl rfl hl.1 rfl (lv_room (Nat.le_of_ble_eq_true rfl)) px_d32_51 ⟨(Nat.le_of_ble_eq_true rfl), (Nat.le_of_ble_eq_true rfl)⟩) hS (fun q _ h => hFc q h) hFc (fun u t H1 locs ht hvm hw hB hz1 hk1 hS => ?_)
          obtain ⟨v5, v6⟩ := u
          obtain ⟨hP1, hK1, hD1⟩ := hB
          rw [ht] at hP1
          have hK1 := va_K.moved hvm.symm hK1
          obtain ⟨hP, hD⟩ := va_join (wr := []) (w1 := [(h0, .inr (8, px_mf rf v5)), (rf 36, .inl (c_text, 16384, .inl v6))]) hP hD [0, 1] [] rfl rfl (by decide) (by decide) hk1 hFc hP1 hD1
          generalize H1 = H at hP hS ⊢
          have hP : va_P (dC, dI) vwCl [(h0, .inr (8, px_mf rf v5)), (rf 36, .inl (c_text, 16384, .inl v6))] H := hP
          have hD : va_D A [(h0, .inr (8, px_mf rf v5)), (rf 36, .inl (c_text, 16384, .inl v6))] := hD
          refine lv_aload_n hx hb px_d32_54 rfl (lv_at hl 0 rfl) ?_
          have hPc := hP.sub (ws' := [(h0, .inr (8, px_mf rf v5)), (rf 36, .inl (c_text, 16384, .inl v6))]) [0, 1] rfl
          have hDc := hD.sub (ws' := [(h0, .inr (8, px_mf rf v5)), (rf 36, .inl (c_text, 16384, .inl v6))]) [0, 1] (by decide) rfl
          have hKc := hK.sub (tys' := [(c_text, .byte)]) [0] rfl
          have hFc := va_free (wc := [(h0, .inr (8, px_mf rf v5)), (rf 36, .inl (c_text, 16384, .inl v6))]) hD hS hA [0, 1] rfl
          refine va_callv (va_runV (As := []) (rest := []) ⟨hx, hb, hml, hown, htw⟩ (mnu_met l dC dI H.size h0 rf c_text v5 v6 _ hw) (cwV 0 htw (px_gv px_w360 px_w352 px_w353 px_w94 px_g30) rfl rfl rfl (by decide +kernel) ⟨Nat.le_of_ble_eq_true rfl, Nat.le_of_ble_eq_true rfl⟩) ⟨fun a U g mk q => by obtain ⟨q0, q1, qP, qK, qD, qN⟩ := q; exact ⟨q0, q1, qP, va_K.moved (u := U) (U := U.calling g mk a) (Vm.Alike.refl U.vm) qK, qD, qN.same rfl⟩, va_recv hK hP (ci := 8) (q0 := 0) rfl rfl, fun U hU hW => ⟨rfl, by rw [hU], by rw [hU]; exact hPc, va_K.moved hW.alike hKc, hDc.weaken (fun _ _ _ _ => trivial), hN.warm hW⟩⟩ rfl rfl hl.1 rfl (lv_room (Nat.le_of_ble_eq_true rfl)) px_d32_55 ⟨(Nat.le_of_ble_eq_true rfl), (Nat.le_of_ble_eq_true rfl)⟩) hS (fun q _ h => hFc q h) hFc (fun u t H1 locs ht hvm hw hB hz1 hk1 hS => ?_)
          obtain ⟨v7, v8⟩ := u
          obtain ⟨hP1, hK1, hD1⟩ := hB
          rw [ht] at hP1
          have hK1 := va_K.moved hvm.symm hK1
          obtain ⟨hP, hD⟩ := va_join (wr := []) (w1 := [(h0, .inr (8, px_mf rf v7)), (rf 36, .inl (c_text, 16384, .inl v8))]) hP hD [0, 1] [] rfl rfl (by decide) (by decide) hk1 hFc hP1 hD1
          generalize H1 = H at hP hS ⊢
          have hP : va_P (dC, dI) vwCl [(h0, .inr (8, px_mf rf v7)), (rf 36, .inl (c_text, 16384, .inl v8))] H := hP
          have hD : va_D A [(h0, .inr (8, px_mf rf v7)), (rf 36, .inl (c_text, 16384, .inl v8))] := hD
          refine lv_aload_n hx hb px_d32_58 rfl (lv_at hl 0 rfl) ?_
          refine va_get (D := (dC, dI)) (ci := 8) (v := .int (v7 41)) (C := "MatroidDeskModel") (T := px_T8) (N := 53) hx hb htw px_in8 hown hK hP 0 rfl rfl 41 (by decide) (htw _ px_w343) (fun _ h9 => h9) rfl px_d32_59 ?_
          refine lv_if_ne (tgt := 78) hx hb px_d32_62 (by decide) (fun c62 => ?_) (fun c62 => ?_)
          · have hw := hw.1 c62
            exact S78 x1 v7 v8 H locs ls hP hD hS (lv_sub hl [0, 1] rfl) hw
          · have hw := hw.2 c62
            refine lv_aload_n hx hb px_d32_65 rfl (lv_at hl 0 rfl) ?_
            refine va_get (D := (dC, dI)) (ci := 8) (v := .int (v7 38)) (C := "MatroidDeskModel") (T := px_T8) (N := 53) hx hb htw px_in8 hown hK hP 0 rfl rfl 38 (by decide) (htw _ px_w331) (fun _ h9 => h9) rfl px_d32_66 ?_
            refine lv_bipush (v := 44) hx hb px_d32_69 (by decide) ?_
            refine lv_icmp_ne (tgt := 78) hx hb px_d32_71 (by decide) (fun c71 => ?_) (fun c71 => ?_)
            · have hw := hw.1 c71
              exact S78 x1 v7 v8 H locs ls hP hD hS (lv_sub hl [0, 1] rfl) hw
            · have hw := hw.2 c71
              refine lv_iconst (v := 1) hx hb px_d32_74 (by decide) ?_
              refine lv_goto (tgt := 79) hx hb px_d32_75 (by decide) ?_
              exact S79 x1 1 v7 v8 H locs ls hP hD hS (lv_sub hl [0, 1] rfl) hw
  have S38 : ∀ (y0 : Int32) (iv : Nat → Int32) (g_text : Nat → Int32) (H : Heap) (locs : List Loc) (ls : Array Slot), va_P (dC, dI) vwCl [(h0, .inr (8, px_mf rf iv)), (rf 36, .inl (c_text, 16384, .inl g_text))] H → va_D A [(h0, .inr (8, px_mf rf iv)), (rf 36, .inl (c_text, 16384, .inl g_text))] → va_S A s.heap H locs → lv_has ls 2 [(0, .ref h0)] → med_L38 post y0 iv g_text → W p l e (headSpec px_s32 ({ frames := 4, cells := 0, slots := 0, locals := 86 })).room s m ([.ref h0]).toArray below meth c H locs 0 0 Q (F0 m 38 ls [.int y0]) := by
    intro y0 iv g_text H locs ls hP hD hS hl hw
    unfold med_L38 at hw
    refine lv_istore_n (lv' := [(1, .int y0), (0, .ref h0)]) hx hb px_d32_38 rfl hl (by decide) rfl (fun ls hl => ?_)
    obtain ⟨k9, hw⟩ := hw
    exact S39 k9 y0 iv g_text H locs ls hP hD hS (lv_sub hl [1, 0] rfl) hw
  have S37 : ∀ (iv : Nat → Int32) (g_text : Nat → Int32) (H : Heap) (locs : List Loc) (ls : Array Slot), va_P (dC, dI) vwCl [(h0, .inr (8, px_mf rf iv)), (rf 36, .inl (c_text, 16384, .inl g_text))] H → va_D A [(h0, .inr (8, px_mf rf iv)), (rf 36, .inl (c_text, 16384, .inl g_text))] → va_S A s.heap H locs → lv_has ls 2 [(0, .ref h0)] → med_L37 post iv g_text → W p l e (headSpec px_s32 ({ frames := 4, cells := 0, slots := 0, locals := 86 })).room s m ([.ref h0]).toArray below meth c H locs 0 0 Q (F0 m 37 ls []) := by
    intro iv g_text H locs ls hP hD hS hl hw
    unfold med_L37 at hw
    refine lv_iconst (v := 0) hx hb px_d32_37 (by decide) ?_
    exact S38 0 iv g_text H locs ls hP hD hS (lv_sub hl [0] rfl) hw
  have S15 : ∀ (y0 : Int32) (iv : Nat → Int32) (g_text : Nat → Int32) (H : Heap) (locs : List Loc) (ls : Array Slot), va_P (dC, dI) vwCl [(h0, .inr (8, px_mf rf iv)), (rf 36, .inl (c_text, 16384, .inl g_text))] H → va_D A [(h0, .inr (8, px_mf rf iv)), (rf 36, .inl (c_text, 16384, .inl g_text))] → va_S A s.heap H locs → lv_has ls 2 [(0, .ref h0)] → med_L15 post y0 iv g_text → W p l e (headSpec px_s32 ({ frames := 4, cells := 0, slots := 0, locals := 86 })).room s m ([.ref h0]).toArray below meth c H locs 0 0 Q (F0 m 15 ls [.int y0, .ref h0]) := by
    intro y0 iv g_text H locs ls hP hD hS hl hw
    unfold med_L15 at hw
    have hPc := hP.sub (ws' := [(h0, .inr (8, px_mf rf iv)), (rf 36, .inl (c_text, 16384, .inl g_text))]) [0, 1] rfl
    have hDc := hD.sub (ws' := [(h0, .inr (8, px_mf rf iv)), (rf 36, .inl (c_text, 16384, .inl g_text))]) [0, 1] (by decide) rfl
    have hKc := hK.sub (tys' := [(c_text, .byte)]) [0] rfl
    have hFc := va_free (wc := [(h0, .inr (8, px_mf rf iv)), (rf 36, .inl (c_text, 16384, .inl g_text))]) hD hS hA [0, 1] rfl
    refine va_callv (va_runV (As := [.int y0]) (rest := []) ⟨hx, hb, hml, hown, htw⟩ (mwa_met l dC dI H.size h0 rf c_text y0 iv g_text _ hw) (cwV 1 htw (px_gv px_w350 px_w341 px_w342 px_w94 px_g28) rfl rfl rfl (by decide +kernel) ⟨Nat.le_of_ble_eq_true rfl, Nat.le_of_ble_eq_true rfl⟩) ⟨fun a U g mk q => by obtain ⟨q0, q1, qP, qK, qD, qN⟩ := q; exact ⟨q0, q1, qP, va_K.moved (u := U) (U := U.calling g mk a) (Vm.Alike.refl U.vm) qK, qD, qN.same rfl⟩, va_recv hK hP (ci := 8) (q0 := 0) rfl rfl, fun U hU hW => ⟨rfl, by rw [hU], by rw [hU]; exact hPc, va_K.moved hW.alike hKc, hDc.weaken (fun _ _ _ _ => trivial), hN.warm hW⟩⟩ rfl rfl hl.1 rfl (lv_room (Nat.le_of_ble_eq_true rfl)) px_d32_15 ⟨(Nat.le_of_ble_eq_true rfl), (Nat.le_of_ble_eq_true rfl)⟩) hS (fun q _ h => hFc q h) hFc (fun u t H1 locs ht hvm hw hB hz1 hk1 hS => ?_)
    obtain ⟨v9, v10⟩ := u
    obtain ⟨hP1, hK1, hD1⟩ := hB
    rw [ht] at hP1
    have hK1 := va_K.moved hvm.symm hK1
    obtain ⟨hP, hD⟩ := va_join (wr := []) (w1 := [(h0, .inr (8, px_mf rf v9)), (rf 36, .inl (c_text, 16384, .inl v10))]) hP hD [0, 1] [] rfl rfl (by decide) (by decide) hk1 hFc hP1 hD1
    generalize H1 = H at hP hS ⊢
    have hP : va_P (dC, dI) vwCl [(h0, .inr (8, px_mf rf v9)), (rf 36, .inl (c_text, 16384, .inl v10))] H := hP
    have hD : va_D A [(h0, .inr (8, px_mf rf v9)), (rf 36, .inl (c_text, 16384, .inl v10))] := hD
    refine lv_aload_n hx hb px_d32_18 rfl (lv_at hl 0 rfl) ?_
    refine va_get (D := (dC, dI)) (ci := 8) (v := .int (v9 41)) (C := "MatroidDeskModel") (T := px_T8) (N := 53) hx hb htw px_in8 hown hK hP 0 rfl rfl 41 (by decide) (htw _ px_w343) (fun _ h9 => h9) rfl px_d32_19 ?_
    refine lv_if_ne (tgt := 37) hx hb px_d32_22 (by decide) (fun c22 => ?_) (fun c22 => ?_)
    · have hw := hw.1 c22
      exact S37 v9 v10 H locs ls hP hD hS (lv_sub hl [0] rfl) hw
    · have hw := hw.2 c22
      refine lv_aload_n hx hb px_d32_25 rfl (lv_at hl 0 rfl) ?_
      refine va_get (D := (dC, dI)) (ci := 8) (v := .int (v9 38)) (C := "MatroidDeskModel") (T := px_T8) (N := 53) hx hb htw px_in8 hown hK hP 0 rfl rfl 38 (by decide) (htw _ px_w331) (fun _ h9 => h9) rfl px_d32_26 ?_
      refine lv_iconst (v := 2) hx hb px_d32_29 (by decide) ?_
      refine lv_icmp_ne (tgt := 37) hx hb px_d32_30 (by decide) (fun c30 => ?_) (fun c30 => ?_)
      · have hw := hw.1 c30
        exact S37 v9 v10 H locs ls hP hD hS (lv_sub hl [0] rfl) hw
      · have hw := hw.2 c30
        refine lv_iconst (v := 1) hx hb px_d32_33 (by decide) ?_
        refine lv_goto (tgt := 38) hx hb px_d32_34 (by decide) ?_
        exact S38 1 v9 v10 H locs ls hP hD hS (lv_sub hl [0] rfl) hw
  unfold med_wp at hw
  have hS0 := hS
  obtain ⟨H, hH9⟩ : ∃ z, z = s.heap := ⟨_, rfl⟩
  have hP : va_P (dC, dI) vwCl [(h0, .inr (8, px_mf rf iv)), (rf 36, .inl (c_text, 16384, .inl g_text))] H := by rw [hH9]; exact hP
  obtain ⟨locs, hlo9⟩ : ∃ z : List Loc, z = [] := ⟨_, rfl⟩
  have hS : va_S A s.heap H locs := by rw [hH9, hlo9]; exact hS
  suffices hG : W p l e (headSpec px_s32 ({ frames := 4, cells := 0, slots := 0, locals := 86 })).room s m ([.ref h0]).toArray below meth c H locs 0 0 Q (F0 m 0 ls []) by rw [hH9, hlo9] at hG; exact hG
  refine lv_aload_n hx hb px_d32_0 rfl (lv_at hl 0 rfl) ?_
  refine lv_aload_n hx hb px_d32_1 rfl (lv_at hl 0 rfl) ?_
  refine va_get (D := (dC, dI)) (ci := 8) (v := .int (iv 38)) (C := "MatroidDeskModel") (T := px_T8) (N := 53) hx hb htw px_in8 hown hK hP 0 rfl rfl 38 (by decide) (htw _ px_w331) (fun _ h9 => h9) rfl px_d32_2 ?_
  refine lv_bipush (v := 123) hx hb px_d32_5 (by decide) ?_
  refine lv_icmp_ne (tgt := 14) hx hb px_d32_7 (by decide) (fun c7 => ?_) (fun c7 => ?_)
  · have hw := hw.1 c7
    refine lv_iconst (v := 0) hx hb px_d32_14 (by decide) ?_
    exact S15 0 iv g_text H locs ls hP hD hS (lv_sub hl [0] rfl) hw
  · have hw := hw.2 c7
    refine lv_iconst (v := 1) hx hb px_d32_10 (by decide) ?_
    refine lv_goto (tgt := 15) hx hb px_d32_11 (by decide) ?_
    exact S15 1 iv g_text H locs ls hP hD hS (lv_sub hl [0] rfl) hw

def mma_L28 (post : Int32 → (Nat → Int32) → Prop) (x1 : Int32) (x2 : Int32) (y0 : Int32) (iv : Nat → Int32) : Prop := narrow .boolean (.int y0) = .int y0 ∧ post y0 iv
def mma_L16 (post : Int32 → (Nat → Int32) → Prop) (x1 : Int32) (x2 : Int32) (iv : Nat → Int32) : Prop := (¬ (iv 43) = 0 → mma_L28 post x1 x2 0 iv) ∧ ((iv 43) = 0 → mma_L28 post x1 x2 1 iv)
def mma_wp (post : Int32 → (Nat → Int32) → Prop) (bx : Int32) (yx : Int32) (iv : Nat → Int32) : Prop := (¬ (iv 43) = 0 → mma_L16 post bx yx iv) ∧ ((iv 43) = 0 → (¬ bx = 0 → mma_L16 post bx yx iv) ∧ (bx = 0 → mma_L16 post bx yx (va_up iv 43 yx)))
set_option maxHeartbeats 8000000 in
set_option maxRecDepth 100000 in
theorem mma_met (l : Launch) (dC : Nat → ClassId) (dI : Nat → Nat → Nat) (sz : Nat) (h0 : Nat) (rf : Nat → Nat) (bx : Int32) (yx : Int32) (iv : Nat → Int32) (post : Int32 → (Nat → Int32) → Prop) (hw : mma_wp post bx yx iv) : Met l px_y33 px_s33 ({ frames := 0, cells := 0, slots := 0, locals := 0 }) (va_Pc [.ref h0, .int bx, .int yx] (fun U => U.heap.size = sz ∧ va_P (dC, dI) vwCl [(h0, .inr (8, px_mf rf iv))] U.heap ∧ va_K (dC, dI) vwCl [] U ∧ va_D (fun _ => True) [(h0, .inr (8, px_mf rf iv))] ∧ px_N U)) (va_Qi (fun (r : Int32) (u : (Nat → Int32)) => post r u) (fun (u : (Nat → Int32)) (t : State) => va_P (dC, dI) vwCl [(h0, .inr (8, px_mf rf u))] t.heap ∧ va_K (dC, dI) vwCl [] t ∧ va_D (va_A [(h0, .inr (8, px_mf rf iv))] sz) [(h0, .inr (8, px_mf rf u))]) (va_A [(h0, .inr (8, px_mf rf iv))] sz)) 0 0 (va_A [(h0, .inr (8, px_mf rf iv))] sz) := by
  refine Met.ofW (cc := prog_15_method_66_code) (maxL := 3) (ret := (some .boolean)) (by decide) rfl ?_
  intro p e s m args below meth c s₁ B hml hv
  obtain ⟨rfl, hsz, hP, hK, hD0, hN⟩ := hv
  have hx := B.exec
  have hb := B.bytes
  have hr := B.returns
  have htw : ∀ w ∈ px_all, w.before _ s = true := fun w h => atoms_spec (ws := px_s33) B.pre w (List.mem_cons_of_mem _ h)
  have hown : s.vm.findClass "MatroidDeskModel" = some m.cls := findClass_of_methodNamed B.named
  have hlocks := B.notSynchronized
  subst hsz
  have hD := hD0.self (sz := s.heap.size)
  generalize hAe : va_A [(h0, .inr (8, px_mf rf iv))] s.heap.size = A at hD ⊢
  have hA : ∀ q : Nat, s.heap.size ≤ q → A q := fun q h => by rw [← hAe]; exact Or.inr h
  have hS : va_S A s.heap s.heap [] := va_S.rf
  have hP : va_P (dC, dI) vwCl [(h0, .inr (8, px_mf rf iv))] s.heap := hP
  have hl := lv_entry ([.ref h0, .int bx, .int yx]) (n := 3) (Nat.le_of_ble_eq_true rfl)
  rw [lg_entry_eq]
  generalize (lg_sl ([.ref h0, .int bx, .int yx]) ++ List.replicate (3 - (lg_sl ([.ref h0, .int bx, .int yx])).length) Slot.unset).toArray = ls at hl ⊢
  have hl : lv_has ls 3 [(0, .ref h0), (1, .int bx), (2, .int yx)] := hl
  generalize hQ : MQ _ _ _ _ _ _ _ = Q
  have S28 : ∀ (x1 : Int32) (x2 : Int32) (y0 : Int32) (iv : Nat → Int32) (H : Heap) (locs : List Loc) (ls : Array Slot), va_P (dC, dI) vwCl [(h0, .inr (8, px_mf rf iv))] H → va_D A [(h0, .inr (8, px_mf rf iv))] → va_S A s.heap H locs → lv_has ls 3 [(0, .ref h0), (1, .int x1), (2, .int x2)] → mma_L28 post x1 x2 y0 iv → W p l e (headSpec px_s33 ({ frames := 0, cells := 0, slots := 0, locals := 0 })).room s m ([.ref h0, .int bx, .int yx]).toArray below meth c H locs 0 0 Q (F0 m 28 ls [.int y0]) := by
    intro x1 x2 y0 iv H locs ls hP hD hS hl hw
    unfold mma_L28 at hw
    obtain ⟨hz9, hw⟩ := hw
    rw [← hQ]
    exact W.zret (v := y0) hx hb hr hz9 (fun t ht hW => ⟨⟨y0, iv, rfl, hw, by rw [ht]; exact hP, va_K.moved hW.alike hK, hD⟩, hS.F ht⟩) hS.2.2 px_d33_28
  have S16 : ∀ (x1 : Int32) (x2 : Int32) (iv : Nat → Int32) (H : Heap) (locs : List Loc) (ls : Array Slot), va_P (dC, dI) vwCl [(h0, .inr (8, px_mf rf iv))] H → va_D A [(h0, .inr (8, px_mf rf iv))] → va_S A s.heap H locs → lv_has ls 3 [(0, .ref h0), (1, .int x1), (2, .int x2)] → mma_L16 post x1 x2 iv → W p l e (headSpec px_s33 ({ frames := 0, cells := 0, slots := 0, locals := 0 })).room s m ([.ref h0, .int bx, .int yx]).toArray below meth c H locs 0 0 Q (F0 m 16 ls []) := by
    intro x1 x2 iv H locs ls hP hD hS hl hw
    unfold mma_L16 at hw
    refine lv_aload_n hx hb px_d33_16 rfl (lv_at hl 0 rfl) ?_
    refine va_get (D := (dC, dI)) (ci := 8) (v := .int (iv 43)) (C := "MatroidDeskModel") (T := px_T8) (N := 53) hx hb htw px_in8 hown hK hP 0 rfl rfl 43 (by decide) (htw _ px_w364) (fun _ h9 => h9) rfl px_d33_17 ?_
    refine lv_if_ne (tgt := 27) hx hb px_d33_20 (by decide) (fun c20 => ?_) (fun c20 => ?_)
    · have hw := hw.1 c20
      refine lv_iconst (v := 0) hx hb px_d33_27 (by decide) ?_
      exact S28 x1 x2 0 iv H locs ls hP hD hS (lv_sub hl [0, 1, 2] rfl) hw
    · have hw := hw.2 c20
      refine lv_iconst (v := 1) hx hb px_d33_23 (by decide) ?_
      refine lv_goto (tgt := 28) hx hb px_d33_24 (by decide) ?_
      exact S28 x1 x2 1 iv H locs ls hP hD hS (lv_sub hl [0, 1, 2] rfl) hw
  unfold mma_wp at hw
  have hS0 := hS
  obtain ⟨H, hH9⟩ : ∃ z, z = s.heap := ⟨_, rfl⟩
  have hP : va_P (dC, dI) vwCl [(h0, .inr (8, px_mf rf iv))] H := by rw [hH9]; exact hP
  obtain ⟨locs, hlo9⟩ : ∃ z : List Loc, z = [] := ⟨_, rfl⟩
  have hS : va_S A s.heap H locs := by rw [hH9, hlo9]; exact hS
  suffices hG : W p l e (headSpec px_s33 ({ frames := 0, cells := 0, slots := 0, locals := 0 })).room s m ([.ref h0, .int bx, .int yx]).toArray below meth c H locs 0 0 Q (F0 m 0 ls []) by rw [hH9, hlo9] at hG; exact hG
  refine lv_aload_n hx hb px_d33_0 rfl (lv_at hl 0 rfl) ?_
  refine va_get (D := (dC, dI)) (ci := 8) (v := .int (iv 43)) (C := "MatroidDeskModel") (T := px_T8) (N := 53) hx hb htw px_in8 hown hK hP 0 rfl rfl 43 (by decide) (htw _ px_w364) (fun _ h9 => h9) rfl px_d33_1 ?_
  refine lv_if_ne (tgt := 16) hx hb px_d33_4 (by decide) (fun c4 => ?_) (fun c4 => ?_)
  · have hw := hw.1 c4
    exact S16 bx yx iv H locs ls hP hD hS (lv_sub hl [0, 1, 2] rfl) hw
  · have hw := hw.2 c4
    refine lv_iload_n hx hb px_d33_7 rfl (lv_at hl 1 rfl) ?_
    refine lv_if_ne (tgt := 16) hx hb px_d33_8 (by decide) (fun c8 => ?_) (fun c8 => ?_)
    · have hw := hw.1 c8
      exact S16 bx yx iv H locs ls hP hD hS (lv_sub hl [0, 1, 2] rfl) hw
    · have hw := hw.2 c8
      refine lv_aload_n hx hb px_d33_11 rfl (lv_at hl 0 rfl) ?_
      refine lv_iload_n hx hb px_d33_12 rfl (lv_at hl 2 rfl) ?_
      refine va_put (D := (dC, dI)) (ci := 8) (v := .int yx) (ty := .int) (C := "MatroidDeskModel") (T := px_T8) (N := 53) hx hb htw px_in8 px_ty8 px_tyok8 px_nm8 hown hK hP hD hS 0 rfl rfl 43 (by decide) (htw _ px_w364) (fun _ h9 => h9) rfl (by decide +kernel) rfl rfl (Nat.le_of_ble_eq_true rfl) px_d33_13 (fun H locs hP hD hS => ?_)
      rw [px_ms43] at hP hD
      have hP : va_P (dC, dI) vwCl [(h0, .inr (8, px_mf rf (va_up iv 43 yx)))] H := hP
      have hD : va_D A [(h0, .inr (8, px_mf rf (va_up iv 43 yx)))] := hD
      exact S16 bx yx (va_up iv 43 yx) H locs ls hP hD hS (lv_sub hl [0, 1, 2] rfl) hw

def mle_wp (post : Int32 → (Nat → Int32) → (Nat → Int32) → Prop) (iv : Nat → Int32) (g_text : Nat → Int32) : Prop := vp_in (iv 39) 16384 ∧ (∀ z1 : Int32, z1 = (g_text (Int32.toNatClampNeg (iv 39))) - 97 → mnx_wp (fun v2 v3 => post z1 v2 v3) iv g_text)
set_option maxHeartbeats 8000000 in
set_option maxRecDepth 100000 in
theorem mle_met (l : Launch) (dC : Nat → ClassId) (dI : Nat → Nat → Nat) (sz : Nat) (h0 : Nat) (rf : Nat → Nat) (c_text : ClassId) (iv : Nat → Int32) (g_text : Nat → Int32) (post : Int32 → (Nat → Int32) → (Nat → Int32) → Prop) (hw : mle_wp post iv g_text) : Met l px_y35 px_s35 ({ frames := 2, cells := 0, slots := 0, locals := 45 }) (va_Pc [.ref h0] (fun U => U.heap.size = sz ∧ va_P (dC, dI) vwCl [(h0, .inr (8, px_mf rf iv)), (rf 36, .inl (c_text, 16384, .inl g_text))] U.heap ∧ va_K (dC, dI) vwCl [(c_text, .byte)] U ∧ va_D (fun _ => True) [(h0, .inr (8, px_mf rf iv)), (rf 36, .inl (c_text, 16384, .inl g_text))] ∧ px_N U)) (va_Qi (fun (r : Int32) (u : (Nat → Int32) × (Nat → Int32)) => post r u.1 u.2) (fun (u : (Nat → Int32) × (Nat → Int32)) (t : State) => va_P (dC, dI) vwCl [(h0, .inr (8, px_mf rf u.1)), (rf 36, .inl (c_text, 16384, .inl u.2))] t.heap ∧ va_K (dC, dI) vwCl [(c_text, .byte)] t ∧ va_D (va_A [(h0, .inr (8, px_mf rf iv)), (rf 36, .inl (c_text, 16384, .inl g_text))] sz) [(h0, .inr (8, px_mf rf u.1)), (rf 36, .inl (c_text, 16384, .inl u.2))]) (va_A [(h0, .inr (8, px_mf rf iv)), (rf 36, .inl (c_text, 16384, .inl g_text))] sz)) 0 0 (va_A [(h0, .inr (8, px_mf rf iv)), (rf 36, .inl (c_text, 16384, .inl g_text))] sz) := by
  refine Met.ofW (cc := prog_15_method_64_code) (maxL := 2) (ret := (some .int)) (by decide) rfl ?_
  intro p e s m args below meth c s₁ B hml hv
  obtain ⟨rfl, hsz, hP, hK, hD0, hN⟩ := hv
  have hx := B.exec
  have hb := B.bytes
  have hr := B.returns
  have htw : ∀ w ∈ px_all, w.before _ s = true := fun w h => atoms_spec (ws := px_s35) B.pre w (List.mem_cons_of_mem _ h)
  have hown : s.vm.findClass "MatroidDeskModel" = some m.cls := findClass_of_methodNamed B.named
  have hlocks := B.notSynchronized
  subst hsz
  have hD := hD0.self (sz := s.heap.size)
  generalize hAe : va_A [(h0, .inr (8, px_mf rf iv)), (rf 36, .inl (c_text, 16384, .inl g_text))] s.heap.size = A at hD ⊢
  have hA : ∀ q : Nat, s.heap.size ≤ q → A q := fun q h => by rw [← hAe]; exact Or.inr h
  have hS : va_S A s.heap s.heap [] := va_S.rf
  have hP : va_P (dC, dI) vwCl [(h0, .inr (8, px_mf rf iv)), (rf 36, .inl (c_text, 16384, .inl g_text))] s.heap := hP
  have hl := lv_entry ([.ref h0]) (n := 2) (Nat.le_of_ble_eq_true rfl)
  rw [lg_entry_eq]
  generalize (lg_sl ([.ref h0]) ++ List.replicate (2 - (lg_sl ([.ref h0])).length) Slot.unset).toArray = ls at hl ⊢
  have hl : lv_has ls 2 [(0, .ref h0)] := hl
  generalize hQ : MQ _ _ _ _ _ _ _ = Q
  unfold mle_wp at hw
  have hS0 := hS
  obtain ⟨H, hH9⟩ : ∃ z, z = s.heap := ⟨_, rfl⟩
  have hP : va_P (dC, dI) vwCl [(h0, .inr (8, px_mf rf iv)), (rf 36, .inl (c_text, 16384, .inl g_text))] H := by rw [hH9]; exact hP
  obtain ⟨locs, hlo9⟩ : ∃ z : List Loc, z = [] := ⟨_, rfl⟩
  have hS : va_S A s.heap H locs := by rw [hH9, hlo9]; exact hS
  suffices hG : W p l e (headSpec px_s35 ({ frames := 2, cells := 0, slots := 0, locals := 45 })).room s m ([.ref h0]).toArray below meth c H locs 0 0 Q (F0 m 0 ls []) by rw [hH9, hlo9] at hG; exact hG
  refine lv_aload_n hx hb px_d35_0 rfl (lv_at hl 0 rfl) ?_
  refine va_get (D := (dC, dI)) (ci := 8) (v := .ref (rf 36)) (C := "MatroidDeskModel") (T := px_T8) (N := 53) hx hb htw px_in8 hown hK hP 0 rfl rfl 36 (by decide) (htw _ px_w320) (fun _ h9 => h9) rfl px_d35_1 ?_
  refine lv_aload_n hx hb px_d35_4 rfl (lv_at hl 0 rfl) ?_
  refine va_get (D := (dC, dI)) (ci := 8) (v := .int (iv 39)) (C := "MatroidDeskModel") (T := px_T8) (N := 53) hx hb htw px_in8 hown hK hP 0 rfl rfl 39 (by decide) (htw _ px_w330) (fun _ h9 => h9) rfl px_d35_5 ?_
  obtain ⟨hi8, hw⟩ := hw
  refine va_bald hx hb hK hP 1 0 rfl rfl hi8 px_d35_8 ?_
  refine lv_bipush (v := 97) hx hb px_d35_9 (by decide) ?_
  refine lv_isub hx hb px_d35_11 ?_
  refine lv_topi (fun z1 ez1 => ?_)
  have hw := hw z1 ez1
  refine lv_istore_n (lv' := [(1, .int z1), (0, .ref h0)]) hx hb px_d35_12 rfl hl (by decide) rfl (fun ls hl => ?_)
  refine lv_aload_n hx hb px_d35_13 rfl (lv_at hl 1 rfl) ?_
  have hPc := hP.sub (ws' := [(h0, .inr (8, px_mf rf iv)), (rf 36, .inl (c_text, 16384, .inl g_text))]) [0, 1] rfl
  have hDc := hD.sub (ws' := [(h0, .inr (8, px_mf rf iv)), (rf 36, .inl (c_text, 16384, .inl g_text))]) [0, 1] (by decide) rfl
  have hKc := hK.sub (tys' := [(c_text, .byte)]) [0] rfl
  have hFc := va_free (wc := [(h0, .inr (8, px_mf rf iv)), (rf 36, .inl (c_text, 16384, .inl g_text))]) hD hS hA [0, 1] rfl
  refine va_callv (va_runV (As := []) (rest := []) ⟨hx, hb, hml, hown, htw⟩ (mnx_met l dC dI H.size h0 rf c_text iv g_text _ hw) (cwV 0 htw (px_gv px_w345 px_w326 px_w327 px_w94 px_g25) rfl rfl rfl (by decide +kernel) ⟨Nat.le_of_ble_eq_true rfl, Nat.le_of_ble_eq_true rfl⟩) ⟨fun a U g mk q => by obtain ⟨q0, q1, qP, qK, qD, qN⟩ := q; exact ⟨q0, q1, qP, va_K.moved (u := U) (U := U.calling g mk a) (Vm.Alike.refl U.vm) qK, qD, qN.same rfl⟩, va_recv hK hP (ci := 8) (q0 := 0) rfl rfl, fun U hU hW => ⟨rfl, by rw [hU], by rw [hU]; exact hPc, va_K.moved hW.alike hKc, hDc.weaken (fun _ _ _ _ => trivial), hN.warm hW⟩⟩ rfl rfl hl.1 rfl (lv_room (Nat.le_of_ble_eq_true rfl)) px_d35_14 ⟨(Nat.le_of_ble_eq_true rfl), (Nat.le_of_ble_eq_true rfl)⟩) hS (fun q _ h => hFc q h) hFc (fun u t H1 locs ht hvm hw hB hz1 hk1 hS => ?_)
  obtain ⟨v2, v3⟩ := u
  obtain ⟨hP1, hK1, hD1⟩ := hB
  rw [ht] at hP1
  have hK1 := va_K.moved hvm.symm hK1
  obtain ⟨hP, hD⟩ := va_join (wr := []) (w1 := [(h0, .inr (8, px_mf rf v2)), (rf 36, .inl (c_text, 16384, .inl v3))]) hP hD [0, 1] [] rfl rfl (by decide) (by decide) hk1 hFc hP1 hD1
  generalize H1 = H at hP hS ⊢
  have hP : va_P (dC, dI) vwCl [(h0, .inr (8, px_mf rf v2)), (rf 36, .inl (c_text, 16384, .inl v3))] H := hP
  have hD : va_D A [(h0, .inr (8, px_mf rf v2)), (rf 36, .inl (c_text, 16384, .inl v3))] := hD
  refine lv_iload_n hx hb px_d35_17 rfl (lv_at hl 0 rfl) ?_
  rw [← hQ]
  exact W.iret (v := z1) hx hb hr (fun t ht hW => ⟨⟨z1, (v2, v3), rfl, hw, by rw [ht]; exact hP, va_K.moved hW.alike hK, hD⟩, hS.F ht⟩) hS.2.2 px_d35_18

def mtd_wp (post : Int32 → (Nat → Int32) → (Nat → Int32) → Prop) (iv : Nat → Int32) (g_text : Nat → Int32) : Prop := mva_wp (fun r1 v1 v2 => mnx_wp (fun v3 v4 => post r1 v3 v4) v1 v2) iv g_text
set_option maxHeartbeats 8000000 in
set_option maxRecDepth 100000 in
theorem mtd_met (l : Launch) (dC : Nat → ClassId) (dI : Nat → Nat → Nat) (sz : Nat) (h0 : Nat) (rf : Nat → Nat) (c_text : ClassId) (iv : Nat → Int32) (g_text : Nat → Int32) (post : Int32 → (Nat → Int32) → (Nat → Int32) → Prop) (hw : mtd_wp post iv g_text) : Met l px_y36 px_s36 ({ frames := 2, cells := 0, slots := 0, locals := 45 }) (va_Pc [.ref h0] (fun U => U.heap.size = sz ∧ va_P (dC, dI) vwCl [(h0, .inr (8, px_mf rf iv)), (rf 36, .inl (c_text, 16384, .inl g_text))] U.heap ∧ va_K (dC, dI) vwCl [(c_text, .byte)] U ∧ va_D (fun _ => True) [(h0, .inr (8, px_mf rf iv)), (rf 36, .inl (c_text, 16384, .inl g_text))] ∧ px_N U)) (va_Qi (fun (r : Int32) (u : (Nat → Int32) × (Nat → Int32)) => post r u.1 u.2) (fun (u : (Nat → Int32) × (Nat → Int32)) (t : State) => va_P (dC, dI) vwCl [(h0, .inr (8, px_mf rf u.1)), (rf 36, .inl (c_text, 16384, .inl u.2))] t.heap ∧ va_K (dC, dI) vwCl [(c_text, .byte)] t ∧ va_D (va_A [(h0, .inr (8, px_mf rf iv)), (rf 36, .inl (c_text, 16384, .inl g_text))] sz) [(h0, .inr (8, px_mf rf u.1)), (rf 36, .inl (c_text, 16384, .inl u.2))]) (va_A [(h0, .inr (8, px_mf rf iv)), (rf 36, .inl (c_text, 16384, .inl g_text))] sz)) 0 0 (va_A [(h0, .inr (8, px_mf rf iv)), (rf 36, .inl (c_text, 16384, .inl g_text))] sz) := by
  refine Met.ofW (cc := prog_15_method_65_code) (maxL := 2) (ret := (some .int)) (by decide) rfl ?_
  intro p e s m args below meth c s₁ B hml hv
  obtain ⟨rfl, hsz, hP, hK, hD0, hN⟩ := hv
  have hx := B.exec
  have hb := B.bytes
  have hr := B.returns
  have htw : ∀ w ∈ px_all, w.before _ s = true := fun w h => atoms_spec (ws := px_s36) B.pre w (List.mem_cons_of_mem _ h)
  have hown : s.vm.findClass "MatroidDeskModel" = some m.cls := findClass_of_methodNamed B.named
  have hlocks := B.notSynchronized
  subst hsz
  have hD := hD0.self (sz := s.heap.size)
  generalize hAe : va_A [(h0, .inr (8, px_mf rf iv)), (rf 36, .inl (c_text, 16384, .inl g_text))] s.heap.size = A at hD ⊢
  have hA : ∀ q : Nat, s.heap.size ≤ q → A q := fun q h => by rw [← hAe]; exact Or.inr h
  have hS : va_S A s.heap s.heap [] := va_S.rf
  have hP : va_P (dC, dI) vwCl [(h0, .inr (8, px_mf rf iv)), (rf 36, .inl (c_text, 16384, .inl g_text))] s.heap := hP
  have hl := lv_entry ([.ref h0]) (n := 2) (Nat.le_of_ble_eq_true rfl)
  rw [lg_entry_eq]
  generalize (lg_sl ([.ref h0]) ++ List.replicate (2 - (lg_sl ([.ref h0])).length) Slot.unset).toArray = ls at hl ⊢
  have hl : lv_has ls 2 [(0, .ref h0)] := hl
  generalize hQ : MQ _ _ _ _ _ _ _ = Q
  unfold mtd_wp at hw
  have hS0 := hS
  obtain ⟨H, hH9⟩ : ∃ z, z = s.heap := ⟨_, rfl⟩
  have hP : va_P (dC, dI) vwCl [(h0, .inr (8, px_mf rf iv)), (rf 36, .inl (c_text, 16384, .inl g_text))] H := by rw [hH9]; exact hP
  obtain ⟨locs, hlo9⟩ : ∃ z : List Loc, z = [] := ⟨_, rfl⟩
  have hS : va_S A s.heap H locs := by rw [hH9, hlo9]; exact hS
  suffices hG : W p l e (headSpec px_s36 ({ frames := 2, cells := 0, slots := 0, locals := 45 })).room s m ([.ref h0]).toArray below meth c H locs 0 0 Q (F0 m 0 ls []) by rw [hH9, hlo9] at hG; exact hG
  refine lv_aload_n hx hb px_d36_0 rfl (lv_at hl 0 rfl) ?_
  have hPc := hP.sub (ws' := [(h0, .inr (8, px_mf rf iv)), (rf 36, .inl (c_text, 16384, .inl g_text))]) [0, 1] rfl
  have hDc := hD.sub (ws' := [(h0, .inr (8, px_mf rf iv)), (rf 36, .inl (c_text, 16384, .inl g_text))]) [0, 1] (by decide) rfl
  have hKc := hK.sub (tys' := [(c_text, .byte)]) [0] rfl
  have hFc := va_free (wc := [(h0, .inr (8, px_mf rf iv)), (rf 36, .inl (c_text, 16384, .inl g_text))]) hD hS hA [0, 1] rfl
  refine va_calli (va_runV (As := []) (rest := []) ⟨hx, hb, hml, hown, htw⟩ (mva_met l dC dI H.size h0 rf c_text iv g_text _ hw) (cwV 0 htw (px_gv px_w373 px_w335 px_w336 px_w94 px_g26) rfl rfl rfl (by decide +kernel) ⟨Nat.le_of_ble_eq_true rfl, Nat.le_of_ble_eq_true rfl⟩) ⟨fun a U g mk q => by obtain ⟨q0, q1, qP, qK, qD, qN⟩ := q; exact ⟨q0, q1, qP, va_K.moved (u := U) (U := U.calling g mk a) (Vm.Alike.refl U.vm) qK, qD, qN.same rfl⟩, va_recv hK hP (ci := 8) (q0 := 0) rfl rfl, fun U hU hW => ⟨rfl, by rw [hU], by rw [hU]; exact hPc, va_K.moved hW.alike hKc, hDc.weaken (fun _ _ _ _ => trivial), hN.warm hW⟩⟩ rfl rfl hl.1 rfl (lv_room (Nat.le_of_ble_eq_true rfl)) px_d36_1 ⟨(Nat.le_of_ble_eq_true rfl), (Nat.le_of_ble_eq_true rfl)⟩) hS (fun q _ h => hFc q h) hFc (fun r1 u t H1 locs ht hvm hw hB hz1 hk1 hS => ?_)
  obtain ⟨v1, v2⟩ := u
  obtain ⟨hP1, hK1, hD1⟩ := hB
  rw [ht] at hP1
  have hK1 := va_K.moved hvm.symm hK1
  obtain ⟨hP, hD⟩ := va_join (wr := []) (w1 := [(h0, .inr (8, px_mf rf v1)), (rf 36, .inl (c_text, 16384, .inl v2))]) hP hD [0, 1] [] rfl rfl (by decide) (by decide) hk1 hFc hP1 hD1
  generalize H1 = H at hP hS ⊢
  have hP : va_P (dC, dI) vwCl [(h0, .inr (8, px_mf rf v1)), (rf 36, .inl (c_text, 16384, .inl v2))] H := hP
  have hD : va_D A [(h0, .inr (8, px_mf rf v1)), (rf 36, .inl (c_text, 16384, .inl v2))] := hD
  refine lv_istore_n (lv' := [(1, .int r1), (0, .ref h0)]) hx hb px_d36_4 rfl hl (by decide) rfl (fun ls hl => ?_)
  refine lv_aload_n hx hb px_d36_5 rfl (lv_at hl 1 rfl) ?_
  have hPc := hP.sub (ws' := [(h0, .inr (8, px_mf rf v1)), (rf 36, .inl (c_text, 16384, .inl v2))]) [0, 1] rfl
  have hDc := hD.sub (ws' := [(h0, .inr (8, px_mf rf v1)), (rf 36, .inl (c_text, 16384, .inl v2))]) [0, 1] (by decide) rfl
  have hKc := hK.sub (tys' := [(c_text, .byte)]) [0] rfl
  have hFc := va_free (wc := [(h0, .inr (8, px_mf rf v1)), (rf 36, .inl (c_text, 16384, .inl v2))]) hD hS hA [0, 1] rfl
  refine va_callv (va_runV (As := []) (rest := []) ⟨hx, hb, hml, hown, htw⟩ (mnx_met l dC dI H.size h0 rf c_text v1 v2 _ hw) (cwV 0 htw (px_gv px_w345 px_w326 px_w327 px_w94 px_g25) rfl rfl rfl (by decide +kernel) ⟨Nat.le_of_ble_eq_true rfl, Nat.le_of_ble_eq_true rfl⟩) ⟨fun a U g mk q => by obtain ⟨q0, q1, qP, qK, qD, qN⟩ := q; exact ⟨q0, q1, qP, va_K.moved (u := U) (U := U.calling g mk a) (Vm.Alike.refl U.vm) qK, qD, qN.same rfl⟩, va_recv hK hP (ci := 8) (q0 := 0) rfl rfl, fun U hU hW => ⟨rfl, by rw [hU], by rw [hU]; exact hPc, va_K.moved hW.alike hKc, hDc.weaken (fun _ _ _ _ => trivial), hN.warm hW⟩⟩ rfl rfl hl.1 rfl (lv_room (Nat.le_of_ble_eq_true rfl)) px_d36_6 ⟨(Nat.le_of_ble_eq_true rfl), (Nat.le_of_ble_eq_true rfl)⟩) hS (fun q _ h => hFc q h) hFc (fun u t H1 locs ht hvm hw hB hz1 hk1 hS => ?_)
  obtain ⟨v3, v4⟩ := u
  obtain ⟨hP1, hK1, hD1⟩ := hB
  rw [ht] at hP1
  have hK1 := va_K.moved hvm.symm hK1
  obtain ⟨hP, hD⟩ := va_join (wr := []) (w1 := [(h0, .inr (8, px_mf rf v3)), (rf 36, .inl (c_text, 16384, .inl v4))]) hP hD [0, 1] [] rfl rfl (by decide) (by decide) hk1 hFc hP1 hD1
  generalize H1 = H at hP hS ⊢
  have hP : va_P (dC, dI) vwCl [(h0, .inr (8, px_mf rf v3)), (rf 36, .inl (c_text, 16384, .inl v4))] H := hP
  have hD : va_D A [(h0, .inr (8, px_mf rf v3)), (rf 36, .inl (c_text, 16384, .inl v4))] := hD
  refine lv_iload_n hx hb px_d36_9 rfl (lv_at hl 0 rfl) ?_
  rw [← hQ]
  exact W.iret (v := r1) hx hb hr (fun t ht hW => ⟨⟨r1, (v3, v4), rfl, hw, by rw [ht]; exact hP, va_K.moved hW.alike hK, hD⟩, hS.F ht⟩) hS.2.2 px_d36_10

def mpu_L41 (post : (Nat → Int32) → (Nat → Int32) → Prop) (x1 : Int32) (iv : Nat → Int32) (g_sheet : Nat → Int32) : Prop := post iv g_sheet
def mpu_wp (post : (Nat → Int32) → (Nat → Int32) → Prop) (cx : Int32) (iv : Nat → Int32) (g_sheet : Nat → Int32) : Prop := (¬ (iv 47) = 65536 → vp_in (iv 47) 65536 ∧ (∀ z1 : Int32, z1 = (iv 47) + 1 → mpu_L41 post cx (va_up iv 47 z1) (upd g_sheet (Int32.toNatClampNeg (iv 47)) (vp_nar .byte cx.toInt8.toInt32)))) ∧ ((iv 47) = 65536 → mma_wp (fun r13 v2 => mpu_L41 post cx v2 g_sheet) 0 7 iv)
set_option maxHeartbeats 8000000 in
set_option maxRecDepth 100000 in
theorem mpu_met (l : Launch) (dC : Nat → ClassId) (dI : Nat → Nat → Nat) (sz : Nat) (h0 : Nat) (rf : Nat → Nat) (c_sheet : ClassId) (cx : Int32) (iv : Nat → Int32) (g_sheet : Nat → Int32) (post : (Nat → Int32) → (Nat → Int32) → Prop) (hw : mpu_wp post cx iv g_sheet) : Met l px_y37 px_s37 ({ frames := 1, cells := 0, slots := 0, locals := 22 }) (va_Pc [.ref h0, .int cx] (fun U => U.heap.size = sz ∧ va_P (dC, dI) vwCl [(h0, .inr (8, px_mf rf iv)), (rf 46, .inl (c_sheet, 65536, .inl g_sheet))] U.heap ∧ va_K (dC, dI) vwCl [(c_sheet, .byte)] U ∧ va_D (fun _ => True) [(h0, .inr (8, px_mf rf iv)), (rf 46, .inl (c_sheet, 65536, .inl g_sheet))] ∧ px_N U)) (va_Qv (fun (u : (Nat → Int32) × (Nat → Int32)) => post u.1 u.2) (fun (u : (Nat → Int32) × (Nat → Int32)) (t : State) => va_P (dC, dI) vwCl [(h0, .inr (8, px_mf rf u.1)), (rf 46, .inl (c_sheet, 65536, .inl u.2))] t.heap ∧ va_K (dC, dI) vwCl [(c_sheet, .byte)] t ∧ va_D (va_A [(h0, .inr (8, px_mf rf iv)), (rf 46, .inl (c_sheet, 65536, .inl g_sheet))] sz) [(h0, .inr (8, px_mf rf u.1)), (rf 46, .inl (c_sheet, 65536, .inl u.2))]) (va_A [(h0, .inr (8, px_mf rf iv)), (rf 46, .inl (c_sheet, 65536, .inl g_sheet))] sz)) 0 0 (va_A [(h0, .inr (8, px_mf rf iv)), (rf 46, .inl (c_sheet, 65536, .inl g_sheet))] sz) := by
  refine Met.ofW (cc := prog_15_method_75_code) (maxL := 3) (ret := none) (by decide) rfl ?_
  intro p e s m args below meth c s₁ B hml hv
  obtain ⟨rfl, hsz, hP, hK, hD0, hN⟩ := hv
  have hx := B.exec
  have hb := B.bytes
  have hr := B.returns
  have htw : ∀ w ∈ px_all, w.before _ s = true := fun w h => atoms_spec (ws := px_s37) B.pre w (List.mem_cons_of_mem _ h)
  have hown : s.vm.findClass "MatroidDeskModel" = some m.cls := findClass_of_methodNamed B.named
  have hlocks := B.notSynchronized
  subst hsz
  have hD := hD0.self (sz := s.heap.size)
  generalize hAe : va_A [(h0, .inr (8, px_mf rf iv)), (rf 46, .inl (c_sheet, 65536, .inl g_sheet))] s.heap.size = A at hD ⊢
  have hA : ∀ q : Nat, s.heap.size ≤ q → A q := fun q h => by rw [← hAe]; exact Or.inr h
  have hS : va_S A s.heap s.heap [] := va_S.rf
  have hP : va_P (dC, dI) vwCl [(h0, .inr (8, px_mf rf iv)), (rf 46, .inl (c_sheet, 65536, .inl g_sheet))] s.heap := hP
  have hl := lv_entry ([.ref h0, .int cx]) (n := 3) (Nat.le_of_ble_eq_true rfl)
  rw [lg_entry_eq]
  generalize (lg_sl ([.ref h0, .int cx]) ++ List.replicate (3 - (lg_sl ([.ref h0, .int cx])).length) Slot.unset).toArray = ls at hl ⊢
  have hl : lv_has ls 3 [(0, .ref h0), (1, .int cx)] := hl
  generalize hQ : MQ _ _ _ _ _ _ _ = Q
  have S41 : ∀ (x1 : Int32) (iv : Nat → Int32) (g_sheet : Nat → Int32) (H : Heap) (locs : List Loc) (ls : Array Slot), va_P (dC, dI) vwCl [(h0, .inr (8, px_mf rf iv)), (rf 46, .inl (c_sheet, 65536, .inl g_sheet))] H → va_D A [(h0, .inr (8, px_mf rf iv)), (rf 46, .inl (c_sheet, 65536, .inl g_sheet))] → va_S A s.heap H locs → lv_has ls 3 [(0, .ref h0), (1, .int x1)] → mpu_L41 post x1 iv g_sheet → W p l e (headSpec px_s37 ({ frames := 1, cells := 0, slots := 0, locals := 22 })).room s m ([.ref h0, .int cx]).toArray below meth c H locs 0 0 Q (F0 m 41 ls []) := by
    intro x1 iv g_sheet H locs ls hP hD hS hl hw
    unfold mpu_L41 at hw
    rw [← hQ]
    exact W.vret hx hb hr (fun t ht hW => ⟨⟨(iv, g_sheet), rfl, hw, by rw [ht]; exact hP, va_K.moved hW.alike hK, hD⟩, hS.F ht⟩) hS.2.2 px_d37_41
  unfold mpu_wp at hw
  have hS0 := hS
  obtain ⟨H, hH9⟩ : ∃ z, z = s.heap := ⟨_, rfl⟩
  have hP : va_P (dC, dI) vwCl [(h0, .inr (8, px_mf rf iv)), (rf 46, .inl (c_sheet, 65536, .inl g_sheet))] H := by rw [hH9]; exact hP
  obtain ⟨locs, hlo9⟩ : ∃ z : List Loc, z = [] := ⟨_, rfl⟩
  have hS : va_S A s.heap H locs := by rw [hH9, hlo9]; exact hS
  suffices hG : W p l e (headSpec px_s37 ({ frames := 1, cells := 0, slots := 0, locals := 22 })).room s m ([.ref h0, .int cx]).toArray below meth c H locs 0 0 Q (F0 m 0 ls []) by rw [hH9, hlo9] at hG; exact hG
  refine lv_aload_n hx hb px_d37_0 rfl (lv_at hl 0 rfl) ?_
  refine va_get (D := (dC, dI)) (ci := 8) (v := .int (iv 47)) (C := "MatroidDeskModel") (T := px_T8) (N := 53) hx hb htw px_in8 hown hK hP 0 rfl rfl 47 (by decide) (htw _ px_w377) (fun _ h9 => h9) rfl px_d37_1 ?_
  refine lv_ldc hx hb (own := "MatroidDeskModel") (index := 218) (v := 65536) hown (htw _ px_w378) px_d37_4 ?_
  refine lv_icmp_ne (tgt := 20) hx hb px_d37_6 (by decide) (fun c6 => ?_) (fun c6 => ?_)
  · have hw := hw.1 c6
    refine lv_aload_n hx hb px_d37_20 rfl (lv_at hl 0 rfl) ?_
    refine va_get (D := (dC, dI)) (ci := 8) (v := .ref (rf 46)) (C := "MatroidDeskModel") (T := px_T8) (N := 53) hx hb htw px_in8 hown hK hP 0 rfl rfl 46 (by decide) (htw _ px_w380) (fun _ h9 => h9) rfl px_d37_21 ?_
    refine lv_aload_n hx hb px_d37_24 rfl (lv_at hl 0 rfl) ?_
    refine va_get (D := (dC, dI)) (ci := 8) (v := .int (iv 47)) (C := "MatroidDeskModel") (T := px_T8) (N := 53) hx hb htw px_in8 hown hK hP 0 rfl rfl 47 (by decide) (htw _ px_w377) (fun _ h9 => h9) rfl px_d37_25 ?_
    refine lv_iload_n hx hb px_d37_28 rfl (lv_at hl 1 rfl) ?_
    refine lv_i2b (v := cx.toInt8.toInt32) hx hb px_d37_29 rfl ?_
    obtain ⟨hi30, hw⟩ := hw
    refine va_bast hx hb hK hP hD hS 1 0 rfl rfl hi30 px_d37_30 (fun H locs hP hD hS => ?_)
    have hP : va_P (dC, dI) vwCl [(h0, .inr (8, px_mf rf iv)), (rf 46, .inl (c_sheet, 65536, .inl (upd g_sheet (Int32.toNatClampNeg (iv 47)) (vp_nar .byte cx.toInt8.toInt32))))] H := hP
    have hD : va_D A [(h0, .inr (8, px_mf rf iv)), (rf 46, .inl (c_sheet, 65536, .inl (upd g_sheet (Int32.toNatClampNeg (iv 47)) (vp_nar .byte cx.toInt8.toInt32))))] := hD
    refine lv_aload_n hx hb px_d37_31 rfl (lv_at hl 0 rfl) ?_
    refine lv_dup hx hb px_d37_32 rfl ?_
    refine va_get (D := (dC, dI)) (ci := 8) (v := .int (iv 47)) (C := "MatroidDeskModel") (T := px_T8) (N := 53) hx hb htw px_in8 hown hK hP 0 rfl rfl 47 (by decide) (htw _ px_w377) (fun _ h9 => h9) rfl px_d37_33 ?_
    refine lv_iconst (v := 1) hx hb px_d37_36 (by decide) ?_
    refine lv_iadd hx hb px_d37_37 ?_
    refine lv_topi (fun z1 ez1 => ?_)
    have hw := hw z1 ez1
    refine va_put (D := (dC, dI)) (ci := 8) (v := .int z1) (ty := .int) (C := "MatroidDeskModel") (T := px_T8) (N := 53) hx hb htw px_in8 px_ty8 px_tyok8 px_nm8 hown hK hP hD hS 0 rfl rfl 47 (by decide) (htw _ px_w377) (fun _ h9 => h9) rfl (by decide +kernel) rfl rfl (Nat.le_of_ble_eq_true rfl) px_d37_38 (fun H locs hP hD hS => ?_)
    rw [px_ms47] at hP hD
    have hP : va_P (dC, dI) vwCl [(h0, .inr (8, px_mf rf (va_up iv 47 z1))), (rf 46, .inl (c_sheet, 65536, .inl (upd g_sheet (Int32.toNatClampNeg (iv 47)) (vp_nar .byte cx.toInt8.toInt32))))] H := hP
    have hD : va_D A [(h0, .inr (8, px_mf rf (va_up iv 47 z1))), (rf 46, .inl (c_sheet, 65536, .inl (upd g_sheet (Int32.toNatClampNeg (iv 47)) (vp_nar .byte cx.toInt8.toInt32))))] := hD
    exact S41 cx (va_up iv 47 z1) (upd g_sheet (Int32.toNatClampNeg (iv 47)) (vp_nar .byte cx.toInt8.toInt32)) H locs ls hP hD hS (lv_sub hl [0, 1] rfl) hw
  · have hw := hw.2 c6
    refine lv_aload_n hx hb px_d37_9 rfl (lv_at hl 0 rfl) ?_
    refine lv_iconst (v := 0) hx hb px_d37_10 (by decide) ?_
    refine lv_bipush (v := 7) hx hb px_d37_11 (by decide) ?_
    have hPc := hP.sub (ws' := [(h0, .inr (8, px_mf rf iv))]) [0] rfl
    have hDc := hD.sub (ws' := [(h0, .inr (8, px_mf rf iv))]) [0] (by decide) rfl
    have hKc := hK.sub (tys' := []) [] rfl
    have hFc := va_free (wc := [(h0, .inr (8, px_mf rf iv))]) hD hS hA [0] rfl
    refine va_calli (va_runV (As := [.int 0, .int 7]) (rest := []) ⟨hx, hb, hml, hown, htw⟩ (mma_met l dC dI H.size h0 rf 0 7 iv _ hw) (cwV 2 htw (px_gv px_w379 px_w362 px_w363 px_w94 px_g33) rfl rfl rfl (by decide +kernel) ⟨Nat.le_of_ble_eq_true rfl, Nat.le_of_ble_eq_true rfl⟩) ⟨fun a U g mk q => by obtain ⟨q0, q1, qP, qK, qD, qN⟩ := q; exact ⟨q0, q1, qP, va_K.moved (u := U) (U := U.calling g mk a) (Vm.Alike.refl U.vm) qK, qD, qN.same rfl⟩, va_recv hK hP (ci := 8) (q0 := 0) rfl rfl, fun U hU hW => ⟨rfl, by rw [hU], by rw [hU]; exact hPc, va_K.moved hW.alike hKc, hDc.weaken (fun _ _ _ _ => trivial), hN.warm hW⟩⟩ rfl rfl hl.1 rfl (lv_room (Nat.le_of_ble_eq_true rfl)) px_d37_13 ⟨(Nat.le_of_ble_eq_true rfl), (Nat.le_of_ble_eq_true rfl)⟩) hS (fun q _ h => hFc q h) hFc (fun r13 u t H1 locs ht hvm hw hB hz1 hk1 hS => ?_)
    obtain ⟨v2, rfl⟩ : ∃ z, z = u := ⟨_, rfl⟩
    obtain ⟨hP1, hK1, hD1⟩ := hB
    rw [ht] at hP1
    have hK1 := va_K.moved hvm.symm hK1
    obtain ⟨hP, hD⟩ := va_join (wr := [(rf 46, .inl (c_sheet, 65536, .inl g_sheet))]) (w1 := [(h0, .inr (8, px_mf rf v2))]) hP hD [0] [1] rfl rfl (by decide) (by decide) hk1 hFc hP1 hD1
    generalize H1 = H at hP hS ⊢
    have hP : va_P (dC, dI) vwCl [(rf 46, .inl (c_sheet, 65536, .inl g_sheet)), (h0, .inr (8, px_mf rf v2))] H := hP
    have hD : va_D A [(rf 46, .inl (c_sheet, 65536, .inl g_sheet)), (h0, .inr (8, px_mf rf v2))] := hD
    have hP := hP.sub (ws' := [(h0, .inr (8, px_mf rf v2)), (rf 46, .inl (c_sheet, 65536, .inl g_sheet))]) [1, 0] rfl
    have hD := hD.sub (ws' := [(h0, .inr (8, px_mf rf v2)), (rf 46, .inl (c_sheet, 65536, .inl g_sheet))]) [1, 0] (by decide) rfl
    refine lv_istore_n (lv' := [(2, .int r13), (0, .ref h0), (1, .int cx)]) hx hb px_d37_16 rfl hl (by decide) rfl (fun ls hl => ?_)
    refine lv_goto (tgt := 41) hx hb px_d37_17 (by decide) ?_
    exact S41 cx v2 g_sheet H locs ls hP hD hS (lv_sub hl [1, 2] rfl) hw

