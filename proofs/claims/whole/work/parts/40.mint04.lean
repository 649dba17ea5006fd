/-! MatroidDeskModel.set(I)I -/
def w101_L73 (K11 : Int32 → Int32 → Int32 → Int32 → (Nat → Int32) → (Nat → Int32) → (Nat → Int32) → Prop) (post : Int32 → (Nat → Int32) → (Nat → Int32) → (Nat → Int32) → Prop) (x1 : Int32) (x2 : Int32) (x3 : Int32) (x4 : Int32) (x5 : Int32) (y0 : Int32) (iv : Nat → Int32) (g_elements : Nat → Int32) (g_text : Nat → Int32) : Prop := K11 x1 y0 x3 x4 iv g_elements g_text
def w101_L53 (K11 : Int32 → Int32 → Int32 → Int32 → (Nat → Int32) → (Nat → Int32) → (Nat → Int32) → Prop) (post : Int32 → (Nat → Int32) → (Nat → Int32) → (Nat → Int32) → Prop) (x1 : Int32) (x2 : Int32) (x3 : Int32) (x4 : Int32) (x5 : Int32) (y0 : Int32) (iv : Nat → Int32) (g_elements : Nat → Int32) (g_text : Nat → Int32) : Prop := (y0 = 0 → w101_L73 K11 post x1 x2 x5 y0 x5 x2 iv g_elements g_text) ∧ (¬ y0 = 0 → w101_L73 K11 post x1 x2 x5 y0 x5 (x2 ||| (1 <<< (x5 &&& 31))) iv g_elements g_text)
def w101_L52 (K11 : Int32 → Int32 → Int32 → Int32 → (Nat → Int32) → (Nat → Int32) → (Nat → Int32) → Prop) (post : Int32 → (Nat → Int32) → (Nat → Int32) → (Nat → Int32) → Prop) (x1 : Int32) (x2 : Int32) (x3 : Int32) (x4 : Int32) (x5 : Int32) (iv : Nat → Int32) (g_elements : Nat → Int32) (g_text : Nat → Int32) : Prop := w101_L53 K11 post x1 x2 x3 x4 x5 0 iv g_elements g_text
def w101_L11 (post : Int32 → (Nat → Int32) → (Nat → Int32) → (Nat → Int32) → Prop) : Nat → Int32 → Int32 → Int32 → Int32 → (Nat → Int32) → (Nat → Int32) → (Nat → Int32) → Prop
  | 0 => fun _ _ _ _ _ _ _ => False
  | k + 1 => fun x1 x2 x3 x4 iv g_elements g_text => ((iv 38) = 125 → mnx_wp (fun v1 v2 => mma_wp (fun r85 v3 => post x2 v3 g_elements v2) x4 2 v1) iv g_text) ∧ (¬ (iv 38) = 125 → mtd_wp (fun r21 v4 v5 => (x4 = 0 → w101_L52 (w101_L11 post k) post x1 x2 x3 x4 r21 v4 g_elements v5) ∧ (¬ x4 = 0 → (r21 ≤ x3 → w101_L52 (w101_L11 post k) post x1 x2 x3 x4 r21 v4 g_elements v5) ∧ (¬ r21 ≤ x3 → vp_in x1 26 ∧ (((g_elements (Int32.toNatClampNeg x1)) ≤ r21 → w101_L52 (w101_L11 post k) post x1 x2 x3 x4 r21 v4 g_elements v5) ∧ (¬ (g_elements (Int32.toNatClampNeg x1)) ≤ r21 → w101_L53 (w101_L11 post k) post x1 x2 x3 x4 r21 1 v4 g_elements v5))))) iv g_text)
def w101_wp (post : Int32 → (Nat → Int32) → (Nat → Int32) → (Nat → Int32) → Prop) (a1x : Int32) (iv : Nat → Int32) (g_elements : Nat → Int32) (g_text : Nat → Int32) : Prop := mnx_wp (fun v6 v7 => ∃ j11, w101_L11 post j11 a1x 0 (-1) 1 v6 g_elements v7) iv g_text
set_option maxHeartbeats 8000000 in
set_option maxRecDepth 100000 in
theorem w101_met (l : Launch) (dC : Nat → ClassId) (dI : Nat → Nat → Nat) (sz : Nat) (h0 : Nat) (rf : Nat → Nat) (c_elements : ClassId) (c_text : ClassId) (a1x : Int32) (iv : Nat → Int32) (g_elements : Nat → Int32) (g_text : Nat → Int32) (post : Int32 → (Nat → Int32) → (Nat → Int32) → (Nat → Int32) → Prop) (hw : w101_wp post a1x iv g_elements g_text) : Met l px_y101 px_s101 ({ frames := 3, cells := 0, slots := 0, locals := 66 }) (va_Pc [.ref h0, .int a1x] (fun U => U.heap.size = sz ∧ va_P (dC, dI) vwCl [(h0, .inr (8, px_mf rf iv)), (rf 19, .inl (c_elements, 26, .inl g_elements)), (rf 36, .inl (c_text, 16384, .inl g_text))] U.heap ∧ va_K (dC, dI) vwCl [(c_elements, .int), (c_text, .byte)] U ∧ va_D (fun _ => True) [(h0, .inr (8, px_mf rf iv)), (rf 19, .inl (c_elements, 26, .inl g_elements)), (rf 36, .inl (c_text, 16384, .inl g_text))] ∧ px_N U)) (va_Qi (fun (r : Int32) (u : (Nat → Int32) × (Nat → Int32) × (Nat → Int32)) => post r u.1 u.2.1 u.2.2) (fun (u : (Nat → Int32) × (Nat → Int32) × (Nat → Int32)) (t : State) => va_P (dC, dI) vwCl [(h0, .inr (8, px_mf rf u.1)), (rf 19, .inl (c_elements, 26, .inl u.2.1)), (rf 36, .inl (c_text, 16384, .inl u.2.2))] t.heap ∧ va_K (dC, dI) vwCl [(c_elements, .int), (c_text, .byte)] t ∧ va_D (va_A [(h0, .inr (8, px_mf rf iv)), (rf 19, .inl (c_elements, 26, .inl g_elements)), (rf 36, .inl (c_text, 16384, .inl g_text))] sz) [(h0, .inr (8, px_mf rf u.1)), (rf 19, .inl (c_elements, 26, .inl u.2.1)), (rf 36, .inl (c_text, 16384, .inl u.2.2))]) (va_A [(h0, .inr (8, px_mf rf iv)), (rf 19, .inl (c_elements, 26, .inl g_elements)), (rf 36, .inl (c_text, 16384, .inl g_text))] sz)) 0 0 (va_A [(h0, .inr (8, px_mf rf iv)), (rf 19, .inl (c_elements, 26, .inl g_elements)), (rf 36, .inl (c_text, 16384, .inl g_text))] sz) := by
  refine Met.ofW (cc := prog_15_method_71_code) (maxL := 6) (ret := (some .int)) (by decide) rfl ?_
  intro p e s m args below meth c s₁ B hml hv
  obtain ⟨rfl, hsz, hP, hK, hD0, hN⟩ := hv
  have hx := B.exec
  have hb := B.bytes
  have hr := B.returns
  have htw : ∀ w ∈ px_all, w.before _ s = true := fun w h => atoms_spec (ws := px_s101) B.pre w (List.mem_cons_of_mem _ h)
  have hown : s.vm.findClass "MatroidDeskModel" = some m.cls := findClass_of_methodNamed B.named
  have hlocks := B.notSynchronized
  subst hsz
  have hD := hD0.self (sz := s.heap.size)
  generalize hAe : va_A [(h0, .inr (8, px_mf rf iv)), (rf 19, .inl (c_elements, 26, .inl g_elements)), (rf 36, .inl (c_text, 16384, .inl g_text))] s.heap.size = A at hD ⊢
  have hA : ∀ q : Nat, s.heap.size ≤ q → A q := fun q h => by rw [← hAe]; exact Or.inr h
  have hS : va_S A s.heap s.heap [] := va_S.rf
  have hP : va_P (dC, dI) vwCl [(h0, .inr (8, px_mf rf iv)), (rf 19, .inl (c_elements, 26, .inl g_elements)), (rf 36, .inl (c_text, 16384, .inl g_text))] s.heap := hP
  have hl := lv_entry ([.ref h0, .int a1x]) (n := 6) (Nat.le_of_ble_eq_true rfl)
  rw [lg_entry_eq]
  generalize (lg_sl ([.ref h0, .int a1x]) ++ List.replicate (6 - (lg_sl ([.ref h0, .int a1x])).length) Slot.unset).toArray = ls at hl ⊢
  have hl : lv_has ls 6 [(0, .ref h0), (1, .int a1x)] := hl
  generalize hQ : MQ _ _ _ _ _ _ _ = Q
  have S11 : ∀ (k11 : Nat) (x1 : Int32) (x2 : Int32) (x3 : Int32) (x4 : Int32) (iv : Nat → Int32) (g_elements : Nat → Int32) (g_text : Nat → Int32) (H : Heap) (locs : List Loc) (ls : Array Slot), va_P (dC, dI) vwCl [(h0, .inr (8, px_mf rf iv)), (rf 19, .inl (c_elements, 26, .inl g_elements)), (rf 36, .inl (c_text, 16384, .inl g_text))] H → va_D A [(h0, .inr (8, px_mf rf iv)), (rf 19, .inl (c_elements, 26, .inl g_elements)), (rf 36, .inl (c_text, 16384, .inl g_text))] → va_S A s.heap H locs → lv_has ls 6 [(0, .ref h0), (1, .int x1), (2, .int x2), (3, .int x3), (4, .int x4)] → w101_L11 post k11 x1 x2 x3 x4 iv g_elements g_text → W p l e (headSpec px_s101 ({ frames := 3, cells := 0, slots := 0, locals := 66 })).room s m ([.ref h0, .int a1x]).toArray below meth c H locs 0 0 Q (F0 m 11 ls []) := by
    intro k11
    induction k11 with
    | zero => intro x1 x2 x3 x4 iv g_elements g_text H locs ls hP hD hS hl hw; exact False.elim hw
    | succ k11 ih11 =>
      have S73 : ∀ (x1 : Int32) (x2 : Int32) (x3 : Int32) (x4 : Int32) (x5 : Int32) (y0 : Int32) (iv : Nat → Int32) (g_elements : Nat → Int32) (g_text : Nat → Int32) (H : Heap) (locs : List Loc) (ls : Array Slot), va_P (dC, dI) vwCl [(h0, .inr (8, px_mf rf iv)), (rf 19, .inl (c_elements, 26, .inl g_elements)), (rf 36, .inl (c_text, 16384, .inl g_text))] H → va_D A [(h0, .inr (8, px_mf rf iv)), (rf 19, .inl (c_elements, 26, .inl g_elements)), (rf 36, .inl (c_text, 16384, .inl g_text))] → va_S A s.heap H locs → lv_has ls 6 [(0, .ref h0), (1, .int x1), (2, .int x2), (3, .int x3), (4, .int x4), (5, .int x5)] → w101_L73 (w101_L11 post k11) post x1 x2 x3 x4 x5 y0 iv g_elements g_text → W p l e (headSpec px_s101 ({ frames := 3, cells := 0, slots := 0, locals := 66 })).room s m ([.ref h0, .int a1x]).toArray below meth c H locs 0 0 Q (F0 m 73 ls [.int y0]) := by
        intro x1 x2 x3 x4 x5 y0 iv g_elements g_text H locs ls hP hD hS hl hw
        unfold w101_L73 at hw
        refine lv_istore_n (lv' := [(2, .int y0), (0, .ref h0), (1, .int x1), (3, .int x3), (4, .int x4), (5, .int x5)]) hx hb px_d101_73 rfl hl (by decide) rfl (fun ls hl => ?_)
        refine lv_goto (tgt := 11) hx hb px_d101_74 (by decide) ?_
        exact ih11 x1 y0 x3 x4 iv g_elements g_text H locs ls hP hD hS (lv_sub hl [1, 2, 0, 3, 4] rfl) hw
      have S53 : ∀ (x1 : Int32) (x2 : Int32) (x3 : Int32) (x4 : Int32) (x5 : Int32) (y0 : Int32) (iv : Nat → Int32) (g_elements : Nat → Int32) (g_text : Nat → Int32) (H : Heap) (locs : List Loc) (ls : Array Slot), va_P (dC, dI) vwCl [(h0, .inr (8, px_mf rf iv)), (rf 19, .inl (c_elements, 26, .inl g_elements)), (rf 36, .inl (c_text, 16384, .inl g_text))] H → va_D A [(h0, .inr (8, px_mf rf iv)), (rf 19, .inl (c_elements, 26, .inl g_elements)), (rf 36, .inl (c_text, 16384, .inl g_text))] → va_S A s.heap H locs → lv_has ls 6 [(0, .ref h0), (1, .int x1), (2, .int x2), (3, .int x3), (4, .int x4), (5, .int x5)] → w101_L53 (w101_L11 post k11) post x1 x2 x3 x4 x5 y0 iv g_elements g_text → W p l e (headSpec px_s101 ({ frames := 3, cells := 0, slots := 0, locals := 66 })).room s m ([.ref h0, .int a1x]).toArray below meth c H locs 0 0 Q (F0 m 53 ls [.int y0]) := by
        intro x1 x2 x3 x4 x5 y0 iv g_elements g_text H locs ls hP hD hS hl hw
        unfold w101_L53 at hw
        refine lv_istore (lv' := [(4, .int y0), (0, .ref h0), (1, .int x1), (2, .int x2), (3, .int x3), (5, .int x5)]) hx hb px_d101_53 hl (by decide) rfl (fun ls hl => ?_)
        refine lv_iload hx hb px_d101_55 (lv_at hl 5 rfl) ?_
        refine lv_istore_n (lv' := [(3, .int x5), (4, .int y0), (0, .ref h0), (1, .int x1), (2, .int x2), (5, .int x5)]) hx hb px_d101_57 rfl hl (by decide) rfl (fun ls hl => ?_)
        refine lv_iload hx hb px_d101_58 (lv_at hl 1 rfl) ?_
        refine lv_if_eq (tgt := 72) hx hb px_d101_60 (by decide) (fun c60 => ?_) (fun c60 => ?_)
        · have hw := hw.1 c60
          refine lv_iload_n hx hb px_d101_72 rfl (lv_at hl 4 rfl) ?_
          exact S73 x1 x2 x5 y0 x5 x2 iv g_elements g_text H locs ls hP hD hS (lv_sub hl [2, 3, 4, 0, 1, 5] rfl) hw
        · have hw := hw.2 c60
          refine lv_iload_n hx hb px_d101_63 rfl (lv_at hl 4 rfl) ?_
          refine lv_iconst (v := 1) hx hb px_d101_64 (by decide) ?_
          refine lv_iload hx hb px_d101_65 (lv_at hl 5 rfl) ?_
          refine lv_ishl hx hb px_d101_67 ?_
          refine lv_ior hx hb px_d101_68 ?_
          refine lv_goto (tgt := 73) hx hb px_d101_69 (by decide) ?_
          exact S73 x1 x2 x5 y0 x5 (x2 ||| (1 <<< (x5 &&& 31))) iv g_elements g_text H locs ls hP hD hS (lv_sub hl [2, 3, 4, 0, 1, 5] rfl) hw
      have S52 : ∀ (x1 : Int32) (x2 : Int32) (x3 : Int32) (x4 : Int32) (x5 : Int32) (iv : Nat → Int32) (g_elements : Nat → Int32) (g_text : Nat → Int32) (H : Heap) (locs : List Loc) (ls : Array Slot), va_P (dC, dI) vwCl [(h0, .inr (8, px_mf rf iv)), (rf 19, .inl (c_elements, 26, .inl g_elements)), (rf 36, .inl (c_text, 16384, .inl g_text))] H → va_D A [(h0, .inr (8, px_mf rf iv)), (rf 19, .inl (c_elements, 26, .inl g_elements)), (rf 36, .inl (c_text, 16384, .inl g_text))] → va_S A s.heap H locs → lv_has ls 6 [(0, .ref h0), (1, .int x1), (2, .int x2), (3, .int x3), (4, .int x4), (5, .int x5)] → w101_L52 (w101_L11 post k11) post x1 x2 x3 x4 x5 iv g_elements g_text → W p l e (headSpec px_s101 ({ frames := 3, cells := 0, slots := 0, locals := 66 })).room s m ([.ref h0, .int a1x]).toArray below meth c H locs 0 0 Q (F0 m 52 ls []) := by
        intro x1 x2 x3 x4 x5 iv g_elements g_text H locs ls hP hD hS hl hw
        unfold w101_L52 at hw
        refine lv_iconst (v := 0) hx hb px_d101_52 (by decide) ?_
        exact S53 x1 x2 x3 x4 x5 0 iv g_elements g_text H locs ls hP hD hS (lv_sub hl [0, 1, 2, 3, 4, 5] rfl) hw
      intro x1 x2 x3 x4 iv g_elements g_text H locs ls hP hD hS hl hw
      unfold w101_L11 at hw
      refine lv_aload_n hx hb px_d101_11 rfl (lv_at hl 0 rfl) ?_
      refine va_get (D := (dC, dI)) (ci := 8) (v := .int (iv 38)) (C := "MatroidDeskModel") (T := px_T8) (N := 53) hx hb htw px_in8 hown hK hP 0 rfl rfl 38 (by decide) (htw _ px_w331) (fun _ h9 => h9) rfl px_d101_12 ?_
      refine lv_bipush (v := 125) hx hb px_d101_15 (by decide) ?_
      refine lv_icmp_eq (tgt := 77) hx hb px_d101_17 (by decide) (fun c17 => ?_) (fun c17 => ?_)
      · have hw := hw.1 c17
        refine lv_aload_n hx hb px_d101_77 rfl (lv_at hl 0 rfl) ?_
        have hPc := hP.sub (ws' := [(h0, .inr (8, px_mf rf iv)), (rf 36, .inl (c_text, 16384, .inl g_text))]) [0, 2] rfl
        have hDc := hD.sub (ws' := [(h0, .inr (8, px_mf rf iv)), (rf 36, .inl (c_text, 16384, .inl g_text))]) [0, 2] (by decide) rfl
        have hKc := hK.sub (tys' := [(c_text, .byte)]) [1] rfl
        have hFc := va_free (wc := [(h0, .inr (8, px_mf rf iv)), (rf 36, .inl (c_text, 16384, .inl g_text))]) hD hS hA [0, 2] rfl
        refine va_callv (va_runV (As := []) (rest := []) ⟨hx, hb, hml, hown, htw⟩ (mnx_met l dC dI H.size h0 rf c_text iv g_text _ hw) (cwV 0 htw (px_gv px_w345 px_w326 px_w327 px_w94 px_g25) rfl rfl rfl (by decide +kernel) ⟨Nat.le_of_ble_eq_true rfl, Nat.le_of_ble_eq_true rfl⟩) ⟨fun a U g mk q => by obtain ⟨q0, q1, qP, qK, qD, qN⟩ := q; exact ⟨q0, q1, qP, va_K.moved (u := U) (U := U.calling g mk a) (Vm.Alike.refl U.vm) qK, qD, qN.same rfl⟩, va_recv hK hP (ci := 8) (q0 := 0) rfl rfl, fun U hU hW => ⟨rfl, by rw [hU], by rw [hU]; exact hPc, va_K.moved hW.alike hKc, hDc.weaken (fun _ _ _ _ => trivial), hN.warm hW⟩⟩ rfl rfl hl.1 rfl (lv_room (Nat.le_of_ble_eq_true rfl)) px_d101_78 ⟨(Nat.le_of_ble_eq_true rfl), (Nat.le_of_ble_eq_true rfl)⟩) hS (fun q _ h => hFc q h) hFc (fun u t H1 locs ht hvm hw hB hz1 hk1 hS => ?_)
        obtain ⟨v1, v2⟩ := u
        obtain ⟨hP1, hK1, hD1⟩ := hB
        rw [ht] at hP1
        have hK1 := va_K.moved hvm.symm hK1
        obtain ⟨hP, hD⟩ := va_join (wr := [(rf 19, .inl (c_elements, 26, .inl g_elements))]) (w1 := [(h0, .inr (8, px_mf rf v1)), (rf 36, .inl (c_text, 16384, .inl v2))]) hP hD [0, 2] [1] rfl rfl (by decide) (by decide) hk1 hFc hP1 hD1
        generalize H1 = H at hP hS ⊢
        have hP : va_P (dC, dI) vwCl [(rf 19, .inl (c_elements, 26, .inl g_elements)), (h0, .inr (8, px_mf rf v1)), (rf 36, .inl (c_text, 16384, .inl v2))] H := hP
        have hD : va_D A [(rf 19, .inl (c_elements, 26, .inl g_elements)), (h0, .inr (8, px_mf rf v1)), (rf 36, .inl (c_text, 16384, .inl v2))] := hD
        have hP := hP.sub (ws' := [(h0, .inr (8, px_mf rf v1)), (rf 19, .inl (c_elements, 26, .inl g_elements)), (rf 36, .inl (c_text, 16384, .inl v2))]) [1, 0, 2] rfl
        have hD := hD.sub (ws' := [(h0, .inr (8, px_mf rf v1)), (rf 19, .inl (c_elements, 26, .inl g_elements)), (rf 36, .inl (c_text, 16384, .inl v2))]) [1, 0, 2] (by decide) rfl
        refine lv_aload_n hx hb px_d101_81 rfl (lv_at hl 0 rfl) ?_
        refine lv_iload hx hb px_d101_82 (lv_at hl 4 rfl) ?_
        refine lv_iconst (v := 2) hx hb px_d101_84 (by decide) ?_
        have hPc := hP.sub (ws' := [(h0, .inr (8, px_mf rf v1))]) [0] rfl
        have hDc := hD.sub (ws' := [(h0, .inr (8, px_mf rf v1))]) [0] (by decide) rfl
        have hKc := hK.sub (tys' := []) [] rfl
        have hFc := va_free (wc := [(h0, .inr (8, px_mf rf v1))]) hD hS hA [0] rfl
        refine va_calli (va_runV (As := [.int x4, .int 2]) (rest := []) ⟨hx, hb, hml, hown, htw⟩ (mma_met l dC dI H.size h0 rf x4 2 v1 _ hw) (cwV 2 htw (px_gv px_w379 px_w362 px_w363 px_w94 px_g33) rfl rfl rfl (by decide +kernel) ⟨Nat.le_of_ble_eq_true rfl, Nat.le_of_ble_eq_true rfl⟩) ⟨fun a U g mk q => by obtain ⟨q0, q1, qP, qK, qD, qN⟩ := q; exact ⟨q0, q1, qP, va_K.moved (u := U) (U := U.calling g mk a) (Vm.Alike.refl U.vm) qK, qD, qN.same rfl⟩, va_recv hK hP (ci := 8) (q0 := 0) rfl rfl, fun U hU hW => ⟨rfl, by rw [hU], by rw [hU]; exact hPc, va_K.moved hW.alike hKc, hDc.weaken (fun _ _ _ _ => trivial), hN.warm hW⟩⟩ rfl rfl hl.1 rfl (lv_room (Nat.le_of_ble_eq_true rfl)) px_d101_85 ⟨(Nat.le_of_ble_eq_true rfl), (Nat.le_of_ble_eq_true rfl)⟩) hS (fun q _ h => hFc q h) hFc (fun r85 u t H1 locs ht hvm hw hB hz1 hk1 hS => ?_)
        obtain ⟨v3, rfl⟩ : ∃ z, z = u := ⟨_, rfl⟩
        obtain ⟨hP1, hK1, hD1⟩ := hB
        rw [ht] at hP1
        have hK1 := va_K.moved hvm.symm hK1
        obtain ⟨hP, hD⟩ := va_join (wr := [(rf 19, .inl (c_elements, 26, .inl g_elements)), (rf 36, .inl (c_text, 16384, .inl v2))]) (w1 := [(h0, .inr (8, px_mf rf v3))]) hP hD [0] [1, 2] rfl rfl (by decide) (by decide) hk1 hFc hP1 hD1
        generalize H1 = H at hP hS ⊢
        have hP : va_P (dC, dI) vwCl [(rf 19, .inl (c_elements, 26, .inl g_elements)), (rf 36, .inl (c_text, 16384, .inl v2)), (h0, .inr (8, px_mf rf v3))] H := hP
        have hD : va_D A [(rf 19, .inl (c_elements, 26, .inl g_elements)), (rf 36, .inl (c_text, 16384, .inl v2)), (h0, .inr (8, px_mf rf v3))] := hD
        have hP := hP.sub (ws' := [(h0, .inr (8, px_mf rf v3)), (rf 19, .inl (c_elements, 26, .inl g_elements)), (rf 36, .inl (c_text, 16384, .inl v2))]) [2, 0, 1] rfl
        have hD := hD.sub (ws' := [(h0, .inr (8, px_mf rf v3)), (rf 19, .inl (c_elements, 26, .inl g_elements)), (rf 36, .inl (c_text, 16384, .inl v2))]) [2, 0, 1] (by decide) rfl
        refine lv_istore (lv' := [(4, .int r85), (0, .ref h0), (1, .int x1), (2, .int x2), (3, .int x3)]) hx hb px_d101_88 hl (by decide) rfl (fun ls hl => ?_)
        refine lv_iload_n hx hb px_d101_90 rfl (lv_at hl 3 rfl) ?_
        rw [← hQ]
        exact W.iret (v := x2) hx hb hr (fun t ht hW => ⟨⟨x2, (v3, g_elements, v2), rfl, hw, by rw [ht]; exact hP, va_K.moved hW.alike hK, hD⟩, hS.F ht⟩) hS.2.2 px_d101_91
      · have hw := hw.2 c17
        refine lv_aload_n hx hb px_d101_20 rfl (lv_at hl 0 rfl) ?_
        have hPc := hP.sub (ws' := [(h0, .inr (8, px_mf rf iv)), (rf 36, .inl (c_text, 16384, .inl g_text))]) [0, 2] rfl
        have hDc := hD.sub (ws' := [(h0, .inr (8, px_mf rf iv)), (rf 36, .inl (c_text, 16384, .inl g_text))]) [0, 2] (by decide) rfl
        have hKc := hK.sub (tys' := [(c_text, .byte)]) [1] rfl
        have hFc := va_free (wc := [(h0, .inr (8, px_mf rf iv)), (rf 36, .inl (c_text, 16384, .inl g_text))]) hD hS hA [0, 2] rfl
        refine va_calli (va_runV (As := []) (rest := []) ⟨hx, hb, hml, hown, htw⟩ (mtd_met l dC dI H.size h0 rf c_text iv g_text _ hw) (cwV 0 htw (px_gv px_w665 px_w371 px_w372 px_w94 px_g36) rfl rfl rfl (by decide +kernel) ⟨Nat.le_of_ble_eq_true rfl, Nat.le_of_ble_eq_true rfl⟩) ⟨fun a U g mk q => by obtain ⟨q0, q1, qP, qK, qD, qN⟩ := q; exact ⟨q0, q1, qP, va_K.moved (u := U) (U := U.calling g mk a) (Vm.Alike.refl U.vm) qK, qD, qN.same rfl⟩, va_recv hK hP (ci := 8) (q0 := 0) rfl rfl, fun U hU hW => ⟨rfl, by rw [hU], by rw [hU]; exact hPc, va_K.moved hW.alike hKc, hDc.weaken (fun _ _ _ _ => trivial), hN.warm hW⟩⟩ rfl rfl hl.1 rfl (lv_room (Nat.le_of_ble_eq_true rfl)) px_d101_21 ⟨(Nat.le_of_ble_eq_true rfl), (Nat.le_of_ble_eq_true rfl)⟩) hS (fun q _ h => hFc q h) hFc (fun r21 u t H1 locs ht hvm hw hB hz1 hk1 hS => ?_)
        obtain ⟨v4, v5⟩ := u
        obtain ⟨hP1, hK1, hD1⟩ := hB
        rw [ht] at hP1
        have hK1 := va_K.moved hvm.symm hK1
        obtain ⟨hP, hD⟩ := va_join (wr := [(rf 19, .inl (c_elements, 26, .inl g_elements))]) (w1 := [(h0, .inr (8, px_mf rf v4)), (rf 36, .inl (c_text, 16384, .inl v5))]) hP hD [0, 2] [1] rfl rfl (by decide) (by decide) hk1 hFc hP1 hD1
        generalize H1 = H at hP hS ⊢
        have hP : va_P (dC, dI) vwCl [(rf 19, .inl (c_elements, 26, .inl g_elements)), (h0, .inr (8, px_mf rf v4)), (rf 36, .inl (c_text, 16384, .inl v5))] H := hP
        have hD : va_D A [(rf 19, .inl (c_elements, 26, .inl g_elements)), (h0, .inr (8, px_mf rf v4)), (rf 36, .inl (c_text, 16384, .inl v5))] := hD
        have hP := hP.sub (ws' := [(h0, .inr (8, px_mf rf v4)), (rf 19, .inl (c_elements, 26, .inl g_elements)), (rf 36, .inl (c_text, 16384, .inl v5))]) [1, 0, 2] rfl
        have hD := hD.sub (ws' := [(h0, .inr (8, px_mf rf v4)), (rf 19, .inl (c_elements, 26, .inl g_elements)), (rf 36, .inl (c_text, 16384, .inl v5))]) [1, 0, 2] (by decide) rfl
        refine lv_istore (lv' := [(5, .int r21), (0, .ref h0), (1, .int x1), (2, .int x2), (3, .int x3), (4, .int x4)]) hx hb px_d101_24 hl (by decide) rfl (fun ls hl => ?_)
        refine lv_iload hx hb px_d101_26 (lv_at hl 5 rfl) ?_
        refine lv_if_eq (tgt := 52) hx hb px_d101_28 (by decide) (fun c28 => ?_) (fun c28 => ?_)
        · have hw := hw.1 c28
          exact S52 x1 x2 x3 x4 r21 v4 g_elements v5 H locs ls hP hD hS (lv_sub hl [1, 2, 3, 4, 5, 0] rfl) hw
        · have hw := hw.2 c28
          refine lv_iload hx hb px_d101_31 (lv_at hl 0 rfl) ?_
          refine lv_iload_n hx hb px_d101_33 rfl (lv_at hl 4 rfl) ?_
          refine lv_icmp_le (tgt := 52) hx hb px_d101_34 (by decide) (fun c34 => ?_) (fun c34 => ?_)
          · have hw := hw.1 c34
            exact S52 x1 x2 x3 x4 r21 v4 g_elements v5 H locs ls hP hD hS (lv_sub hl [1, 2, 3, 4, 5, 0] rfl) hw
          · have hw := hw.2 c34
            refine lv_iload hx hb px_d101_37 (lv_at hl 0 rfl) ?_
            refine lv_aload_n hx hb px_d101_39 rfl (lv_at hl 1 rfl) ?_
            refine va_get (D := (dC, dI)) (ci := 8) (v := .ref (rf 19)) (C := "MatroidDeskModel") (T := px_T8) (N := 53) hx hb htw px_in8 hown hK hP 0 rfl rfl 19 (by decide) (htw _ px_w502) (fun _ h9 => h9) rfl px_d101_40 ?_
            refine lv_iload_n hx hb px_d101_43 rfl (lv_at hl 2 rfl) ?_
            obtain ⟨hi44, hw⟩ := hw
            refine va_iald hx hb hK hP 1 0 rfl rfl hi44 px_d101_44 ?_
            refine lv_icmp_ge (tgt := 52) hx hb px_d101_45 (by decide) (fun c45 => ?_) (fun c45 => ?_)
            · have hw := hw.1 c45
              exact S52 x1 x2 x3 x4 r21 v4 g_elements v5 H locs ls hP hD hS (lv_sub hl [1, 2, 3, 4, 5, 0] rfl) hw
            · have hw := hw.2 c45
              refine lv_iconst (v := 1) hx hb px_d101_48 (by decide) ?_
              refine lv_goto (tgt := 53) hx hb px_d101_49 (by decide) ?_
              exact S53 x1 x2 x3 x4 r21 1 v4 g_elements v5 H locs ls hP hD hS (lv_sub hl [1, 2, 3, 4, 5, 0] rfl) hw
  unfold w101_wp at hw
  have hS0 := hS
  obtain ⟨H, hH9⟩ : ∃ z, z = s.heap := ⟨_, rfl⟩
  have hP : va_P (dC, dI) vwCl [(h0, .inr (8, px_mf rf iv)), (rf 19, .inl (c_elements, 26, .inl g_elements)), (rf 36, .inl (c_text, 16384, .inl g_text))] H := by rw [hH9]; exact hP
  obtain ⟨locs, hlo9⟩ : ∃ z : List Loc, z = [] := ⟨_, rfl⟩
  have hS : va_S A s.heap H locs := by rw [hH9, hlo9]; exact hS
  suffices hG : W p l e (headSpec px_s101 ({ frames := 3, cells := 0, slots := 0, locals := 66 })).room s m ([.ref h0, .int a1x]).toArray below meth c H locs 0 0 Q (F0 m 0 ls []) by rw [hH9, hlo9] at hG; exact hG
  refine lv_iconst (v := 0) hx hb px_d101_0 (by decide) ?_
  refine lv_istore_n (lv' := [(2, .int 0), (0, .ref h0), (1, .int a1x)]) hx hb px_d101_1 rfl hl (by decide) rfl (fun ls hl => ?_)
  refine lv_iconst (v := (-1)) hx hb px_d101_2 (by decide) ?_
  refine lv_istore_n (lv' := [(3, .int (-1)), (2, .int 0), (0, .ref h0), (1, .int a1x)]) hx hb px_d101_3 rfl hl (by decide) rfl (fun ls hl => ?_)
  refine lv_iconst (v := 1) hx hb px_d101_4 (by decide) ?_
  refine lv_istore (lv' := [(4, .int 1), (3, .int (-1)), (2, .int 0), (0, .ref h0), (1, .int a1x)]) hx hb px_d101_5 hl (by decide) rfl (fun ls hl => ?_)
  refine lv_aload_n hx hb px_d101_7 rfl (lv_at hl 3 rfl) ?_
  have hPc := hP.sub (ws' := [(h0, .inr (8, px_mf rf iv)), (rf 36, .inl (c_text, 16384, .inl g_text))]) [0, 2] rfl
  have hDc := hD.sub (ws' := [(h0, .inr (8, px_mf rf iv)), (rf 36, .inl (c_text, 16384, .inl g_text))]) [0, 2] (by decide) rfl
  have hKc := hK.sub (tys' := [(c_text, .byte)]) [1] rfl
  have hFc := va_free (wc := [(h0, .inr (8, px_mf rf iv)), (rf 36, .inl (c_text, 16384, .inl g_text))]) hD hS hA [0, 2] rfl
  refine va_callv (va_runV (As := []) (rest := []) ⟨hx, hb, hml, hown, htw⟩ (mnx_met l dC dI H.size h0 rf c_text iv g_text _ hw) (cwV 0 htw (px_gv px_w345 px_w326 px_w327 px_w94 px_g25) rfl rfl rfl (by decide +kernel) ⟨Nat.le_of_ble_eq_true rfl, Nat.le_of_ble_eq_true rfl⟩) ⟨fun a U g mk q => by obtain ⟨q0, q1, qP, qK, qD, qN⟩ := q; exact ⟨q0, q1, qP, va_K.moved (u := U) (U := U.calling g mk a) (Vm.Alike.refl U.vm) qK, qD, qN.same rfl⟩, va_recv hK hP (ci := 8) (q0 := 0) rfl rfl, fun U hU hW => ⟨rfl, by rw [hU], by rw [hU]; exact hPc, va_K.moved hW.alike hKc, hDc.weaken (fun _ _ _ _ => trivial), hN.warm hW⟩⟩ rfl rfl hl.1 rfl (lv_room (Nat.le_of_ble_eq_true rfl)) px_d101_8 ⟨(Nat.le_of_ble_eq_true rfl), (Nat.le_of_ble_eq_true rfl)⟩) hS (fun q _ h => hFc q h) hFc (fun u t H1 locs ht hvm hw hB hz1 hk1 hS => ?_)
  obtain ⟨v6, v7⟩ := u
  obtain ⟨hP1, hK1, hD1⟩ := hB
  rw [ht] at hP1
  have hK1 := va_K.moved hvm.symm hK1
  obtain ⟨hP, hD⟩ := va_join (wr := [(rf 19, .inl (c_elements, 26, .inl g_elements))]) (w1 := [(h0, .inr (8, px_mf rf v6)), (rf 36, .inl (c_text, 16384, .inl v7))]) hP hD [0, 2] [1] rfl rfl (by decide) (by decide) hk1 hFc hP1 hD1
  generalize H1 = H at hP hS ⊢
  have hP : va_P (dC, dI) vwCl [(rf 19, .inl (c_elements, 26, .inl g_elements)), (h0, .inr (8, px_mf rf v6)), (rf 36, .inl (c_text, 16384, .inl v7))] H := hP
  have hD : va_D A [(rf 19, .inl (c_elements, 26, .inl g_elements)), (h0, .inr (8, px_mf rf v6)), (rf 36, .inl (c_text, 16384, .inl v7))] := hD
  have hP := hP.sub (ws' := [(h0, .inr (8, px_mf rf v6)), (rf 19, .inl (c_elements, 26, .inl g_elements)), (rf 36, .inl (c_text, 16384, .inl v7))]) [1, 0, 2] rfl
  have hD := hD.sub (ws' := [(h0, .inr (8, px_mf rf v6)), (rf 19, .inl (c_elements, 26, .inl g_elements)), (rf 36, .inl (c_text, 16384, .inl v7))]) [1, 0, 2] (by decide) rfl
  obtain ⟨k9, hw⟩ := hw
  exact S11 k9 a1x 0 (-1) 1 v6 g_elements v7 H locs ls hP hD hS (lv_sub hl [3, 4, 2, 1, 0] rfl) hw

/-! MatroidDeskModel.putLong(J)V -/
def w105_L76 (K43 : Int64 → Int64 → (Nat → Int32) → (Nat → Int32) → Prop) (post : (Nat → Int32) → (Nat → Int32) → Prop) (x1 : Int64) (x3 : Int64) (x5 : Int64) (y0 : Int64) (y1 : Int32) (iv : Nat → Int32) (g_sheet : Nat → Int32) : Prop := mpu_wp (fun v1 v2 => ∀ z3 : Int64, z3 = x3 / 10 → K43 x1 z3 v1 v2) (y1 + y0.toInt32) iv g_sheet
def w105_L43 (post : (Nat → Int32) → (Nat → Int32) → Prop) : Nat → Int64 → Int64 → (Nat → Int32) → (Nat → Int32) → Prop
  | 0 => fun _ _ _ _ => False
  | k + 1 => fun x1 x3 iv g_sheet => ((lg_cmp x3 0) ≤ 0 → post iv g_sheet) ∧ (¬ (lg_cmp x3 0) ≤ 0 → ¬ x3 = 0 ∧ (∀ z4 : Int64, z4 = (x1 / x3) - (x1 / x3) / 10 * 10 → (0 ≤ (lg_cmp z4 0) → w105_L76 (w105_L43 post k) post x1 x3 z4 z4 48 iv g_sheet) ∧ (¬ 0 ≤ (lg_cmp z4 0) → w105_L76 (w105_L43 post k) post x1 x3 z4 (-z4) 48 iv g_sheet)))
def w105_L34 (K14 : Int64 → Int64 → (Nat → Int32) → (Nat → Int32) → Prop) (post : (Nat → Int32) → (Nat → Int32) → Prop) (x1 : Int64) (x3 : Int64) (iv : Nat → Int32) (g_sheet : Nat → Int32) : Prop := ∀ z5 : Int64, z5 = x3 * 10 → K14 x1 z5 iv g_sheet
def w105_L14 (post : (Nat → Int32) → (Nat → Int32) → Prop) : Nat → Int64 → Int64 → (Nat → Int32) → (Nat → Int32) → Prop
  | 0 => fun _ _ _ _ => False
  | k + 1 => fun x1 x3 iv g_sheet => ¬ x3 = 0 ∧ ((0 < (lg_cmp (x1 / x3) 9) → w105_L34 (w105_L14 post k) post x1 x3 iv g_sheet) ∧ (¬ 0 < (lg_cmp (x1 / x3) 9) → ¬ x3 = 0 ∧ ((0 ≤ (lg_cmp (x1 / x3) (-9)) → ∃ j43, w105_L43 post j43 x1 x3 iv g_sheet) ∧ (¬ 0 ≤ (lg_cmp (x1 / x3) (-9)) → w105_L34 (w105_L14 post k) post x1 x3 iv g_sheet))))
def w105_L12 (post : (Nat → Int32) → (Nat → Int32) → Prop) (x1 : Int64) (iv : Nat → Int32) (g_sheet : Nat → Int32) : Prop := ∃ j14, w105_L14 post j14 x1 1 iv g_sheet
def w105_wp (post : (Nat → Int32) → (Nat → Int32) → Prop) (a1x : Int64) (iv : Nat → Int32) (g_sheet : Nat → Int32) : Prop := (0 ≤ (lg_cmp a1x 0) → w105_L12 post a1x iv g_sheet) ∧ (¬ 0 ≤ (lg_cmp a1x 0) → mpu_wp (fun v6 v7 => w105_L12 post a1x v6 v7) 45 iv g_sheet)
set_option maxHeartbeats 8000000 in
set_option maxRecDepth 100000 in
theorem w105_met (l : Launch) (dC : Nat → ClassId) (dI : Nat → Nat → Nat) (sz : Nat) (h0 : Nat) (rf : Nat → Nat) (c_sheet : ClassId) (a1x : Int64) (iv : Nat → Int32) (g_sheet : Nat → Int32) (post : (Nat → Int32) → (Nat → Int32) → Prop) (hw : w105_wp post a1x iv g_sheet) : Met l px_y105 px_s105 ({ frames := 2, cells := 0, slots := 0, locals := 44 }) (va_Pc [.ref h0, .long a1x] (fun U => U.heap.size = sz ∧ va_P (dC, dI) vwCl [(h0, .inr (8, px_mf rf iv)), (rf 46, .inl (c_sheet, 65536, .inl g_sheet))] U.heap ∧ va_K (dC, dI) vwCl [(c_sheet, .byte)] U ∧ va_D (fun _ => True) [(h0, .inr (8, px_mf rf iv)), (rf 46, .inl (c_sheet, 65536, .inl g_sheet))] ∧ px_N U)) (va_Qv (fun (u : (Nat → Int32) × (Nat → Int32)) => post u.1 u.2) (fun (u : (Nat → Int32) × (Nat → Int32)) (t : State) => va_P (dC, dI) vwCl [(h0, .inr (8, px_mf rf u.1)), (rf 46, .inl (c_sheet, 65536, .inl u.2))] t.heap ∧ va_K (dC, dI) vwCl [(c_sheet, .byte)] t ∧ va_D (va_A [(h0, .inr (8, px_mf rf iv)), (rf 46, .inl (c_sheet, 65536, .inl g_sheet))] sz) [(h0, .inr (8, px_mf rf u.1)), (rf 46, .inl (c_sheet, 65536, .inl u.2))]) (va_A [(h0, .inr (8, px_mf rf iv)), (rf 46, .inl (c_sheet, 65536, .inl g_sheet))] sz)) 0 0 (va_A [(h0, .inr (8, px_mf rf iv)), (rf 46, .inl (c_sheet, 65536, .inl g_sheet))] sz) := by
  refine Met.ofW (cc := prog_15_method_76_code) (maxL := 7) (ret := none) (by decide) rfl ?_
  intro p e s m args below meth c s₁ B hml hv
  obtain ⟨rfl, hsz, hP, hK, hD0, hN⟩ := hv
  have hx := B.exec
  have hb := B.bytes
  have hr := B.returns
  have htw : ∀ w ∈ px_all, w.before _ s = true := fun w h => atoms_spec (ws := px_s105) B.pre w (List.mem_cons_of_mem _ h)
  have hown : s.vm.findClass "MatroidDeskModel" = some m.cls := findClass_of_methodNamed B.named
  have hlocks := B.notSynchronized
  subst hsz
  have hD := hD0.self (sz := s.heap.size)
  generalize hAe : va_A [(h0, .inr (8, px_mf rf iv)), (rf 46, .inl (c_sheet, 65536, .inl g_sheet))] s.heap.size = A at hD ⊢
  have hA : ∀ q : Nat, s.heap.size ≤ q → A q := fun q h => by rw [← hAe]; exact Or.inr h
  have hS : va_S A s.heap s.heap [] := va_S.rf
  have hP : va_P (dC, dI) vwCl [(h0, .inr (8, px_mf rf iv)), (rf 46, .inl (c_sheet, 65536, .inl g_sheet))] s.heap := hP
  have hl := lv_entry ([.ref h0, .long a1x]) (n := 7) (Nat.le_of_ble_eq_true rfl)
  rw [lg_entry_eq]
  generalize (lg_sl ([.ref h0, .long a1x]) ++ List.replicate (7 - (lg_sl ([.ref h0, .long a1x])).length) Slot.unset).toArray = ls at hl ⊢
  have hl : lv_has ls 7 [(0, .ref h0), (1, .long a1x)] := hl
  generalize hQ : MQ _ _ _ _ _ _ _ = Q
  have S43 : ∀ (k43 : Nat) (x1 : Int64) (x3 : Int64) (iv : Nat → Int32) (g_sheet : Nat → Int32) (H : Heap) (locs : List Loc) (ls : Array Slot), va_P (dC, dI) vwCl [(h0, .inr (8, px_mf rf iv)), (rf 46, .inl (c_sheet, 65536, .inl g_sheet))] H → va_D A [(h0, .inr (8, px_mf rf iv)), (rf 46, .inl (c_sheet, 65536, .inl g_sheet))] → va_S A s.heap H locs → lv_has ls 7 [(0, .ref h0), (1, .long x1), (3, .long x3)] → w105_L43 post k43 x1 x3 iv g_sheet → W p l e (headSpec px_s105 ({ frames := 2, cells := 0, slots := 0, locals := 44 })).room s m ([.ref h0, .long a1x]).toArray below meth c H locs 0 0 Q (F0 m 43 ls []) := by
    intro k43
    induction k43 with
    | zero => intro x1 x3 iv g_sheet H locs ls hP hD hS hl hw; exact False.elim hw
    | succ k43 ih43 =>
      have S76 : ∀ (x1 : Int64) (x3 : Int64) (x5 : Int64) (y0 : Int64) (y1 : Int32) (iv : Nat → Int32) (g_sheet : Nat → Int32) (H : Heap) (locs : List Loc) (ls : Array Slot), va_P (dC, dI) vwCl [(h0, .inr (8, px_mf rf iv)), (rf 46, .inl (c_sheet, 65536, .inl g_sheet))] H → va_D A [(h0, .inr (8, px_mf rf iv)), (rf 46, .inl (c_sheet, 65536, .inl g_sheet))] → va_S A s.heap H locs → lv_has ls 7 [(0, .ref h0), (1, .long x1), (3, .long x3), (5, .long x5)] → w105_L76 (w105_L43 post k43) post x1 x3 x5 y0 y1 iv g_sheet → W p l e (headSpec px_s105 ({ frames := 2, cells := 0, slots := 0, locals := 44 })).room s m ([.ref h0, .long a1x]).toArray below meth c H locs 0 0 Q (F0 m 76 ls [.long y0, .int y1, .ref h0]) := by
        intro x1 x3 x5 y0 y1 iv g_sheet H locs ls hP hD hS hl hw
        unfold w105_L76 at hw
        refine lv_l2i (v := y0.toInt32) hx hb px_d105_76 rfl ?_
        refine lv_iadd hx hb px_d105_77 ?_
        have hPc := hP.sub (ws' := [(h0, .inr (8, px_mf rf iv)), (rf 46, .inl (c_sheet, 65536, .inl g_sheet))]) [0, 1] rfl
        have hDc := hD.sub (ws' := [(h0, .inr (8, px_mf rf iv)), (rf 46, .inl (c_sheet, 65536, .inl g_sheet))]) [0, 1] (by decide) rfl
        have hKc := hK.sub (tys' := [(c_sheet, .byte)]) [0] rfl
        have hFc := va_free (wc := [(h0, .inr (8, px_mf rf iv)), (rf 46, .inl (c_sheet, 65536, .inl g_sheet))]) hD hS hA [0, 1] rfl
        refine va_callv (va_runV (As := [.int (y1 + y0.toInt32)]) (rest := []) ⟨hx, hb, hml, hown, htw⟩ (mpu_met l dC dI H.size h0 rf c_sheet (y1 + y0.toInt32) iv g_sheet _ hw) (cwV 1 htw (px_gv px_w700 px_w375 px_w376 px_w94 px_g37) rfl rfl rfl (by decide +kernel) ⟨Nat.le_of_ble_eq_true rfl, Nat.le_of_ble_eq_true rfl⟩) ⟨fun a U g mk q => by obtain ⟨q0, q1, qP, qK, qD, qN⟩ := q; exact ⟨q0, q1, qP, va_K.moved (u := U) (U := U.calling g mk a) (Vm.Alike.refl U.vm) qK, qD, qN.same rfl⟩, va_recv hK hP (ci := 8) (q0 := 0) rfl rfl, fun U hU hW => ⟨rfl, by rw [hU], by rw [hU]; exact hPc, va_K.moved hW.alike hKc, hDc.weaken (fun _ _ _ _ => trivial), hN.warm hW⟩⟩ rfl rfl hl.1 rfl (lv_room (Nat.le_of_ble_eq_true rfl)) px_d105_78 ⟨(Nat.le_of_ble_eq_true rfl), (Nat.le_of_ble_eq_true rfl)⟩) hS (fun q _ h => hFc q h) hFc (fun u t H1 locs ht hvm hw hB hz1 hk1 hS => ?_)
        obtain ⟨v1, v2⟩ := u
        obtain ⟨hP1, hK1, hD1⟩ := hB
        rw [ht] at hP1
        have hK1 := va_K.moved hvm.symm hK1
        obtain ⟨hP, hD⟩ := va_join (wr := []) (w1 := [(h0, .inr (8, px_mf rf v1)), (rf 46, .inl (c_sheet, 65536, .inl v2))]) hP hD [0, 1] [] rfl rfl (by decide) (by decide) hk1 hFc hP1 hD1
        generalize H1 = H at hP hS ⊢
        have hP : va_P (dC, dI) vwCl [(h0, .inr (8, px_mf rf v1)), (rf 46, .inl (c_sheet, 65536, .inl v2))] H := hP
        have hD : va_D A [(h0, .inr (8, px_mf rf v1)), (rf 46, .inl (c_sheet, 65536, .inl v2))] := hD
        refine lv_lload_n hx hb px_d105_81 rfl (lv_at hl 2 rfl) ?_
        refine lv_ldc2 hx hb (own := "MatroidDeskModel") (index := 452) (v := 10) hown (htw _ px_w703) px_d105_82 ?_
        refine lv_ldiv hx hb px_d105_85 (by decide +kernel) ?_
        refine lv_topl (fun z3 ez3 => ?_)
        have hw := hw z3 ez3
        refine lv_lstore_n (lv' := [(3, .long z3), (0, .ref h0), (1, .long x1), (5, .long x5)]) hx hb px_d105_86 rfl hl (by decide) rfl (fun ls hl => ?_)
        refine lv_goto (tgt := 43) hx hb px_d105_87 (by decide) ?_
        exact ih43 x1 z3 v1 v2 H locs ls hP hD hS (lv_sub hl [1, 2, 0] rfl) hw
      intro x1 x3 iv g_sheet H locs ls hP hD hS hl hw
      unfold w105_L43 at hw
      refine lv_lload_n hx hb px_d105_43 rfl (lv_at hl 2 rfl) ?_
      refine lv_lconst (v := 0) hx hb px_d105_44 (by decide) ?_
      refine W.lcmp hx hb px_d105_45 ?_
      refine lv_if_le (tgt := 90) hx hb px_d105_46 (by decide) (fun c46 => ?_) (fun c46 => ?_)
      · have hw := hw.1 c46
        rw [← hQ]
        exact W.vret hx hb hr (fun t ht hW => ⟨⟨(iv, g_sheet), rfl, hw, by rw [ht]; exact hP, va_K.moved hW.alike hK, hD⟩, hS.F ht⟩) hS.2.2 px_d105_90
      · have hw := hw.2 c46
        refine lv_lload_n hx hb px_d105_49 rfl (lv_at hl 1 rfl) ?_
        refine lv_lload_n hx hb px_d105_50 rfl (lv_at hl 2 rfl) ?_
        obtain ⟨hd51, hw⟩ := hw
        refine lv_ldiv hx hb px_d105_51 hd51 ?_
        refine lv_ldc2 hx hb (own := "MatroidDeskModel") (index := 452) (v := 10) hown (htw _ px_w703) px_d105_52 ?_
        refine lv_lrem hx hb px_d105_55 (by decide +kernel) ?_
        refine lv_topl (fun z4 ez4 => ?_)
        have hw := hw z4 ez4
        refine lv_lstore (lv' := [(5, .long z4), (0, .ref h0), (1, .long x1), (3, .long x3)]) hx hb px_d105_56 hl (by decide) rfl (fun ls hl => ?_)
        refine lv_aload_n hx hb px_d105_58 rfl (lv_at hl 1 rfl) ?_
        refine lv_bipush (v := 48) hx hb px_d105_59 (by decide) ?_
        refine lv_lload hx hb px_d105_61 (lv_at hl 0 rfl) ?_
        refine lv_lconst (v := 0) hx hb px_d105_63 (by decide) ?_
        refine W.lcmp hx hb px_d105_64 ?_
        refine lv_if_ge (tgt := 74) hx hb px_d105_65 (by decide) (fun c65 => ?_) (fun c65 => ?_)
        · have hw := hw.1 c65
          refine lv_lload hx hb px_d105_74 (lv_at hl 0 rfl) ?_
          exact S76 x1 x3 z4 z4 48 iv g_sheet H locs ls hP hD hS (lv_sub hl [1, 2, 3, 0] rfl) hw
        · have hw := hw.2 c65
          refine lv_lload hx hb px_d105_68 (lv_at hl 0 rfl) ?_
          refine lv_lneg hx hb px_d105_70 ?_
          refine lv_goto (tgt := 76) hx hb px_d105_71 (by decide) ?_
          exact S76 x1 x3 z4 (-z4) 48 iv g_sheet H locs ls hP hD hS (lv_sub hl [1, 2, 3, 0] rfl) hw
  have S14 : ∀ (k14 : Nat) (x1 : Int64) (x3 : Int64) (iv : Nat → Int32) (g_sheet : Nat → Int32) (H : Heap) (locs : List Loc) (ls : Array Slot), va_P (dC, dI) vwCl [(h0, .inr (8, px_mf rf iv)), (rf 46, .inl (c_sheet, 65536, .inl g_sheet))] H → va_D A [(h0, .inr (8, px_mf rf iv)), (rf 46, .inl (c_sheet, 65536, .inl g_sheet))] → va_S A s.heap H locs → lv_has ls 7 [(0, .ref h0), (1, .long x1), (3, .long x3)] → w105_L14 post k14 x1 x3 iv g_sheet → W p l e (headSpec px_s105 ({ frames := 2, cells := 0, slots := 0, locals := 44 })).room s m ([.ref h0, .long a1x]).toArray below meth c H locs 0 0 Q (F0 m 14 ls []) := by
    intro k14
    induction k14 with
    | zero => intro x1 x3 iv g_sheet H locs ls hP hD hS hl hw; exact False.elim hw
    | succ k14 ih14 =>
      have S34 : ∀ (x1 : Int64) (x3 : Int64) (iv : Nat → Int32) (g_sheet : Nat → Int32) (H : Heap) (locs : List Loc) (ls : Array Slot), va_P (dC, dI) vwCl [(h0, .inr (8, px_mf rf iv)), (rf 46, .inl (c_sheet, 65536, .inl g_sheet))] H → va_D A [(h0, .inr (8, px_mf rf iv)), (rf 46, .inl (c_sheet, 65536, .inl g_sheet))] → va_S A s.heap H locs → lv_has ls 7 [(0, .ref h0), (1, .long x1), (3, .long x3)] → w105_L34 (w105_L14 post k14) post x1 x3 iv g_sheet → W p l e (headSpec px_s105 ({ frames := 2, cells := 0, slots := 0, locals := 44 })).room s m ([.ref h0, .long a1x]).toArray below meth c H locs 0 0 Q (F0 m 34 ls []) := by
        intro x1 x3 iv g_sheet H locs ls hP hD hS hl hw
        unfold w105_L34 at hw
        refine lv_lload_n hx hb px_d105_34 rfl (lv_at hl 2 rfl) ?_
        refine lv_ldc2 hx hb (own := "MatroidDeskModel") (index := 452) (v := 10) hown (htw _ px_w703) px_d105_35 ?_
        refine lv_lmul hx hb px_d105_38 ?_
        refine lv_topl (fun z5 ez5 => ?_)
        have hw := hw z5 ez5
        refine lv_lstore_n (lv' := [(3, .long z5), (0, .ref h0), (1, .long x1)]) hx hb px_d105_39 rfl hl (by decide) rfl (fun ls hl => ?_)
        refine lv_goto (tgt := 14) hx hb px_d105_40 (by decide) ?_
        exact ih14 x1 z5 iv g_sheet H locs ls hP hD hS (lv_sub hl [1, 2, 0] rfl) hw
      intro x1 x3 iv g_sheet H locs ls hP hD hS hl hw
      unfold w105_L14 at hw
      refine lv_lload_n hx hb px_d105_14 rfl (lv_at hl 1 rfl) ?_
      refine lv_lload_n hx hb px_d105_15 rfl (lv_at hl 2 rfl) ?_
      obtain ⟨hd16, hw⟩ := hw
      refine lv_ldiv hx hb px_d105_16 hd16 ?_
      refine lv_ldc2 hx hb (own := "MatroidDeskModel") (index := 448) (v := 9) hown (htw _ px_w701) px_d105_17 ?_
      refine W.lcmp hx hb px_d105_20 ?_
      refine lv_if_gt (tgt := 34) hx hb px_d105_21 (by decide) (fun c21 => ?_) (fun c21 => ?_)
      · have hw := hw.1 c21
        exact S34 x1 x3 iv g_sheet H locs ls hP hD hS (lv_sub hl [0, 1, 2] rfl) hw
      · have hw := hw.2 c21
        refine lv_lload_n hx hb px_d105_24 rfl (lv_at hl 1 rfl) ?_
        refine lv_lload_n hx hb px_d105_25 rfl (lv_at hl 2 rfl) ?_
        obtain ⟨hd26, hw⟩ := hw
        refine lv_ldiv hx hb px_d105_26 hd26 ?_
        refine lv_ldc2 hx hb (own := "MatroidDeskModel") (index := 450) (v := (-9)) hown (htw _ px_w702) px_d105_27 ?_
        refine W.lcmp hx hb px_d105_30 ?_
        refine lv_if_ge (tgt := 43) hx hb px_d105_31 (by decide) (fun c31 => ?_) (fun c31 => ?_)
        · have hw := hw.1 c31
          obtain ⟨k9, hw⟩ := hw
          exact S43 k9 x1 x3 iv g_sheet H locs ls hP hD hS (lv_sub hl [0, 1, 2] rfl) hw
        · have hw := hw.2 c31
          exact S34 x1 x3 iv g_sheet H locs ls hP hD hS (lv_sub hl [0, 1, 2] rfl) hw
  have S12 : ∀ (x1 : Int64) (iv : Nat → Int32) (g_sheet : Nat → Int32) (H : Heap) (locs : List Loc) (ls : Array Slot), va_P (dC, dI) vwCl [(h0, .inr (8, px_mf rf iv)), (rf 46, .inl (c_sheet, 65536, .inl g_sheet))] H → va_D A [(h0, .inr (8, px_mf rf iv)), (rf 46, .inl (c_sheet, 65536, .inl g_sheet))] → va_S A s.heap H locs → lv_has ls 7 [(0, .ref h0), (1, .long x1)] → w105_L12 post x1 iv g_sheet → W p l e (headSpec px_s105 ({ frames := 2, cells := 0, slots := 0, locals := 44 })).room s m ([.ref h0, .long a1x]).toArray below meth c H locs 0 0 Q (F0 m 12 ls []) := by
    intro x1 iv g_sheet H locs ls hP hD hS hl hw
    unfold w105_L12 at hw
    refine lv_lconst (v := 1) hx hb px_d105_12 (by decide) ?_
    refine lv_lstore_n (lv' := [(3, .long 1), (0, .ref h0), (1, .long x1)]) hx hb px_d105_13 rfl hl (by decide) rfl (fun ls hl => ?_)
    obtain ⟨k9, hw⟩ := hw
    exact S14 k9 x1 1 iv g_sheet H locs ls hP hD hS (lv_sub hl [1, 2, 0] rfl) hw
  unfold w105_wp at hw
  have hS0 := hS
  obtain ⟨H, hH9⟩ : ∃ z, z = s.heap := ⟨_, rfl⟩
  have hP : va_P (dC, dI) vwCl [(h0, .inr (8, px_mf rf iv)), (rf 46, .inl (c_sheet, 65536, .inl g_sheet))] H := by rw [hH9]; exact hP
  obtain ⟨locs, hlo9⟩ : ∃ z : List Loc, z = [] := ⟨_, rfl⟩
  have hS : va_S A s.heap H locs := by rw [hH9, hlo9]; exact hS
  suffices hG : W p l e (headSpec px_s105 ({ frames := 2, cells := 0, slots := 0, locals := 44 })).room s m ([.ref h0, .long a1x]).toArray below meth c H locs 0 0 Q (F0 m 0 ls []) by rw [hH9, hlo9] at hG; exact hG
  refine lv_lload_n hx hb px_d105_0 rfl (lv_at hl 1 rfl) ?_
  refine lv_lconst (v := 0) hx hb px_d105_1 (by decide) ?_
  refine W.lcmp hx hb px_d105_2 ?_
  refine lv_if_ge (tgt := 12) hx hb px_d105_3 (by decide) (fun c3 => ?_) (fun c3 => ?_)
  · have hw := hw.1 c3
    exact S12 a1x iv g_sheet H locs ls hP hD hS (lv_sub hl [0, 1] rfl) hw
  · have hw := hw.2 c3
    refine lv_aload_n hx hb px_d105_6 rfl (lv_at hl 0 rfl) ?_
    refine lv_bipush (v := 45) hx hb px_d105_7 (by decide) ?_
    have hPc := hP.sub (ws' := [(h0, .inr (8, px_mf rf iv)), (rf 46, .inl (c_sheet, 65536, .inl g_sheet))]) [0, 1] rfl
    have hDc := hD.sub (ws' := [(h0, .inr (8, px_mf rf iv)), (rf 46, .inl (c_sheet, 65536, .inl g_sheet))]) [0, 1] (by decide) rfl
    have hKc := hK.sub (tys' := [(c_sheet, .byte)]) [0] rfl
    have hFc := va_free (wc := [(h0, .inr (8, px_mf rf iv)), (rf 46, .inl (c_sheet, 65536, .inl g_sheet))]) hD hS hA [0, 1] rfl
    refine va_callv (va_runV (As := [.int 45]) (rest := []) ⟨hx, hb, hml, hown, htw⟩ (mpu_met l dC dI H.size h0 rf c_sheet 45 iv g_sheet _ hw) (cwV 1 htw (px_gv px_w700 px_w375 px_w376 px_w94 px_g37) rfl rfl rfl (by decide +kernel) ⟨Nat.le_of_ble_eq_true rfl, Nat.le_of_ble_eq_true rfl⟩) ⟨fun a U g mk q => by obtain ⟨q0, q1, qP, qK, qD, qN⟩ := q; exact ⟨q0, q1, qP, va_K.moved (u := U) (U := U.calling g mk a) (Vm.Alike.refl U.vm) qK, qD, qN.same rfl⟩, va_recv hK hP (ci := 8) (q0 := 0) rfl rfl, fun U hU hW => ⟨rfl, by rw [hU], by rw [hU]; exact hPc, va_K.moved hW.alike hKc, hDc.weaken (fun _ _ _ _ => trivial), hN.warm hW⟩⟩ rfl rfl hl.1 rfl (lv_room (Nat.le_of_ble_eq_true rfl)) px_d105_9 ⟨(Nat.le_of_ble_eq_true rfl), (Nat.le_of_ble_eq_true rfl)⟩) hS (fun q _ h => hFc q h) hFc (fun u t H1 locs ht hvm hw hB hz1 hk1 hS => ?_)
    obtain ⟨v6, v7⟩ := u
    obtain ⟨hP1, hK1, hD1⟩ := hB
    rw [ht] at hP1
    have hK1 := va_K.moved hvm.symm hK1
    obtain ⟨hP, hD⟩ := va_join (wr := []) (w1 := [(h0, .inr (8, px_mf rf v6)), (rf 46, .inl (c_sheet, 65536, .inl v7))]) hP hD [0, 1] [] rfl rfl (by decide) (by decide) hk1 hFc hP1 hD1
    generalize H1 = H at hP hS ⊢
    have hP : va_P (dC, dI) vwCl [(h0, .inr (8, px_mf rf v6)), (rf 46, .inl (c_sheet, 65536, .inl v7))] H := hP
    have hD : va_D A [(h0, .inr (8, px_mf rf v6)), (rf 46, .inl (c_sheet, 65536, .inl v7))] := hD
    exact S12 a1x v6 v7 H locs ls hP hD hS (lv_sub hl [0, 1] rfl) hw

/-! MatroidDeskModel.putSet(I)V -/
def w106_L43 (K10 : Int32 → Int32 → Int32 → (Nat → Int32) → (Nat → Int32) → Prop) (post : (Nat → Int32) → (Nat → Int32) → Prop) (x1 : Int32) (x2 : Int32) (x3 : Int32) (iv : Nat → Int32) (g_sheet : Nat → Int32) : Prop := ∀ z1 : Int32, z1 = x3 + 1 → K10 x1 x2 z1 iv g_sheet
def w106_L35 (K10 : Int32 → Int32 → Int32 → (Nat → Int32) → (Nat → Int32) → Prop) (post : (Nat → Int32) → (Nat → Int32) → Prop) (x1 : Int32) (x2 : Int32) (x3 : Int32) (iv : Nat → Int32) (g_sheet : Nat → Int32) : Prop := w105_wp (fun v2 v3 => w106_L43 K10 post x1 0 x3 v2 v3) x3.toInt64 iv g_sheet
def w106_L10 (post : (Nat → Int32) → (Nat → Int32) → Prop) : Nat → Int32 → Int32 → Int32 → (Nat → Int32) → (Nat → Int32) → Prop
  | 0 => fun _ _ _ _ _ => False
  | k + 1 => fun x1 x2 x3 iv g_sheet => (12 ≤ x3 → mpu_wp (fun v4 v5 => mpu_wp (fun v6 v7 => post v6 v7) 10 v4 v5) 125 iv g_sheet) ∧ (¬ 12 ≤ x3 → (¬ ((x1 >>> (x3 &&& 31)) &&& 1) = 1 → w106_L43 (w106_L10 post k) post x1 x2 x3 iv g_sheet) ∧ (((x1 >>> (x3 &&& 31)) &&& 1) = 1 → (¬ x2 = 0 → w106_L35 (w106_L10 post k) post x1 x2 x3 iv g_sheet) ∧ (x2 = 0 → mpu_wp (fun v8 v9 => w106_L35 (w106_L10 post k) post x1 x2 x3 v8 v9) 32 iv g_sheet)))
def w106_wp (post : (Nat → Int32) → (Nat → Int32) → Prop) (a1x : Int32) (iv : Nat → Int32) (g_sheet : Nat → Int32) : Prop := mpu_wp (fun v10 v11 => ∃ j10, w106_L10 post j10 a1x 1 0 v10 v11) 123 iv g_sheet
set_option maxHeartbeats 8000000 in
set_option maxRecDepth 100000 in
theorem w106_met (l : Launch) (dC : Nat → ClassId) (dI : Nat → Nat → Nat) (sz : Nat) (h0 : Nat) (rf : Nat → Nat) (c_sheet : ClassId) (a1x : Int32) (iv : Nat → Int32) (g_sheet : Nat → Int32) (post : (Nat → Int32) → (Nat → Int32) → Prop) (hw : w106_wp post a1x iv g_sheet) : Met l px_y106 px_s106 ({ frames := 3, cells := 0, slots := 0, locals := 70 }) (va_Pc [.ref h0, .int a1x] (fun U => U.heap.size = sz ∧ va_P (dC, dI) vwCl [(h0, .inr (8, px_mf rf iv)), (rf 46, .inl (c_sheet, 65536, .inl g_sheet))] U.heap ∧ va_K (dC, dI) vwCl [(c_sheet, .byte)] U ∧ va_D (fun _ => True) [(h0, .inr (8, px_mf rf iv)), (rf 46, .inl (c_sheet, 65536, .inl g_sheet))] ∧ px_N U)) (va_Qv (fun (u : (Nat → Int32) × (Nat → Int32)) => post u.1 u.2) (fun (u : (Nat → Int32) × (Nat → Int32)) (t : State) => va_P (dC, dI) vwCl [(h0, .inr (8, px_mf rf u.1)), (rf 46, .inl (c_sheet, 65536, .inl u.2))] t.heap ∧ va_K (dC, dI) vwCl [(c_sheet, .byte)] t ∧ va_D (va_A [(h0, .inr (8, px_mf rf iv)), (rf 46, .inl (c_sheet, 65536, .inl g_sheet))] sz) [(h0, .inr (8, px_mf rf u.1)), (rf 46, .inl (c_sheet, 65536, .inl u.2))]) (va_A [(h0, .inr (8, px_mf rf iv)), (rf 46, .inl (c_sheet, 65536, .inl g_sheet))] sz)) 0 0 (va_A [(h0, .inr (8, px_mf rf iv)), (rf 46, .inl (c_sheet, 65536, .inl g_sheet))] sz) := by
  refine Met.ofW (cc := prog_15_method_77_code) (maxL := 4) (ret := none) (by decide) rfl ?_
  intro p e s m args below meth c s₁ B hml hv
  obtain ⟨rfl, hsz, hP, hK, hD0, hN⟩ := hv
  have hx := B.exec
  have hb := B.bytes
  have hr := B.returns
  have htw : ∀ w ∈ px_all, w.before _ s = true := fun w h => atoms_spec (ws := px_s106) B.pre w (List.mem_cons_of_mem _ h)
  have hown : s.vm.findClass "MatroidDeskModel" = some m.cls := findClass_of_methodNamed B.named
  have hlocks := B.notSynchronized
  subst hsz
  have hD := hD0.self (sz := s.heap.size)
  generalize hAe : va_A [(h0, .inr (8, px_mf rf iv)), (rf 46, .inl (c_sheet, 65536, .inl g_sheet))] s.heap.size = A at hD ⊢
  have hA : ∀ q : Nat, s.heap.size ≤ q → A q := fun q h => by rw [← hAe]; exact Or.inr h
  have hS : va_S A s.heap s.heap [] := va_S.rf
  have hP : va_P (dC, dI) vwCl [(h0, .inr (8, px_mf rf iv)), (rf 46, .inl (c_sheet, 65536, .inl g_sheet))] s.heap := hP
  have hl := lv_entry ([.ref h0, .int a1x]) (n := 4) (Nat.le_of_ble_eq_true rfl)
  rw [lg_entry_eq]
  generalize (lg_sl ([.ref h0, .int a1x]) ++ List.replicate (4 - (lg_sl ([.ref h0, .int a1x])).length) Slot.unset).toArray = ls at hl ⊢
  have hl : lv_has ls 4 [(0, .ref h0), (1, .int a1x)] := hl
  generalize hQ : MQ _ _ _ _ _ _ _ = Q
  have S10 : ∀ (k10 : Nat) (x1 : Int32) (x2 : Int32) (x3 : Int32) (iv : Nat → Int32) (g_sheet : Nat → Int32) (H : Heap) (locs : List Loc) (ls : Array Slot), va_P (dC, dI) vwCl [(h0, .inr (8, px_mf rf iv)), (rf 46, .inl (c_sheet, 65536, .inl g_sheet))] H → va_D A [(h0, .inr (8, px_mf rf iv)), (rf 46, .inl (c_sheet, 65536, .inl g_sheet))] → va_S A s.heap H locs → lv_has ls 4 [(0, .ref h0), (1, .int x1), (2, .int x2), (3, .int x3)] → w106_L10 post k10 x1 x2 x3 iv g_sheet → W p l e (headSpec px_s106 ({ frames := 3, cells := 0, slots := 0, locals := 70 })).room s m ([.ref h0, .int a1x]).toArray below meth c H locs 0 0 Q (F0 m 10 ls []) := by
    intro k10
    induction k10 with
    | zero => intro x1 x2 x3 iv g_sheet H locs ls hP hD hS hl hw; exact False.elim hw
    | succ k10 ih10 =>
      have S43 : ∀ (x1 : Int32) (x2 : Int32) (x3 : Int32) (iv : Nat → Int32) (g_sheet : Nat → Int32) (H : Heap) (locs : List Loc) (ls : Array Slot), va_P (dC, dI) vwCl [(h0, .inr (8, px_mf rf iv)), (rf 46, .inl (c_sheet, 65536, .inl g_sheet))] H → va_D A [(h0, .inr (8, px_mf rf iv)), (rf 46, .inl (c_sheet, 65536, .inl g_sheet))] → va_S A s.heap H locs → lv_has ls 4 [(0, .ref h0), (1, .int x1), (2, .int x2), (3, .int x3)] → w106_L43 (w106_L10 post k10) post x1 x2 x3 iv g_sheet → W p l e (headSpec px_s106 ({ frames := 3, cells := 0, slots := 0, locals := 70 })).room s m ([.ref h0, .int a1x]).toArray below meth c H locs 0 0 Q (F0 m 43 ls []) := by
        intro x1 x2 x3 iv g_sheet H locs ls hP hD hS hl hw
        unfold w106_L43 at hw
        obtain ⟨z1, ez1⟩ : ∃ y : Int32, y = x3 + 1 := ⟨_, rfl⟩
        have hw := hw z1 ez1
        refine lv_iinc (v := z1) (lv' := [(3, .int z1), (0, .ref h0), (1, .int x1), (2, .int x2)]) hx hb px_d106_43 hl (k := 3) rfl (by rw [ez1]; rfl) (by decide) rfl (fun ls hl => ?_)
        refine lv_goto (tgt := 10) hx hb px_d106_46 (by decide) ?_
        exact ih10 x1 x2 z1 iv g_sheet H locs ls hP hD hS (lv_sub hl [1, 2, 3, 0] rfl) hw
      have S35 : ∀ (x1 : Int32) (x2 : Int32) (x3 : Int32) (iv : Nat → Int32) (g_sheet : Nat → Int32) (H : Heap) (locs : List Loc) (ls : Array Slot), va_P (dC, dI) vwCl [(h0, .inr (8, px_mf rf iv)), (rf 46, .inl (c_sheet, 65536, .inl g_sheet))] H → va_D A [(h0, .inr (8, px_mf rf iv)), (rf 46, .inl (c_sheet, 65536, .inl g_sheet))] → va_S A s.heap H locs → lv_has ls 4 [(0, .ref h0), (1, .int x1), (2, .int x2), (3, .int x3)] → w106_L35 (w106_L10 post k10) post x1 x2 x3 iv g_sheet → W p l e (headSpec px_s106 ({ frames := 3, cells := 0, slots := 0, locals := 70 })).room s m ([.ref h0, .int a1x]).toArray below meth c H locs 0 0 Q (F0 m 35 ls []) := by
        intro x1 x2 x3 iv g_sheet H locs ls hP hD hS hl hw
        unfold w106_L35 at hw
        refine lv_aload_n hx hb px_d106_35 rfl (lv_at hl 0 rfl) ?_
        refine lv_iload_n hx hb px_d106_36 rfl (lv_at hl 3 rfl) ?_
        refine lv_i2l (v := x3.toInt64) hx hb px_d106_37 rfl ?_
        have hPc := hP.sub (ws' := [(h0, .inr (8, px_mf rf iv)), (rf 46, .inl (c_sheet, 65536, .inl g_sheet))]) [0, 1] rfl
        have hDc := hD.sub (ws' := [(h0, .inr (8, px_mf rf iv)), (rf 46, .inl (c_sheet, 65536, .inl g_sheet))]) [0, 1] (by decide) rfl
        have hKc := hK.sub (tys' := [(c_sheet, .byte)]) [0] rfl
        have hFc := va_free (wc := [(h0, .inr (8, px_mf rf iv)), (rf 46, .inl (c_sheet, 65536, .inl g_sheet))]) hD hS hA [0, 1] rfl
        refine va_callv (va_runV (As := [.long x3.toInt64]) (rest := []) ⟨hx, hb, hml, hown, htw⟩ (w105_met l dC dI H.size h0 rf c_sheet x3.toInt64 iv g_sheet _ hw) (cwV 1 htw (px_gv px_w707 px_w698 px_w699 px_w94 px_g105) rfl rfl rfl (by decide +kernel) ⟨Nat.le_of_ble_eq_true rfl, Nat.le_of_ble_eq_true rfl⟩) ⟨fun a U g mk q => by obtain ⟨q0, q1, qP, qK, qD, qN⟩ := q; exact ⟨q0, q1, qP, va_K.moved (u := U) (U := U.calling g mk a) (Vm.Alike.refl U.vm) qK, qD, qN.same rfl⟩, va_recv hK hP (ci := 8) (q0 := 0) rfl rfl, fun U hU hW => ⟨rfl, by rw [hU], by rw [hU]; exact hPc, va_K.moved hW.alike hKc, hDc.weaken (fun _ _ _ _ => trivial), hN.warm hW⟩⟩ rfl rfl hl.1 rfl (lv_room (Nat.le_of_ble_eq_true rfl)) px_d106_38 ⟨(Nat.le_of_ble_eq_true rfl), (Nat.le_of_ble_eq_true rfl)⟩) hS (fun q _ h => hFc q h) hFc (fun u t H1 locs ht hvm hw hB hz1 hk1 hS => ?_)
        obtain ⟨v2, v3⟩ := u
        obtain ⟨hP1, hK1, hD1⟩ := hB
        rw [ht] at hP1
        have hK1 := va_K.moved hvm.symm hK1
        obtain ⟨hP, hD⟩ := va_join (wr := []) (w1 := [(h0, .inr (8, px_mf rf v2)), (rf 46, .inl (c_sheet, 65536, .inl v3))]) hP hD [0, 1] [] rfl rfl (by decide) (by decide) hk1 hFc hP1 hD1
        generalize H1 = H at hP hS ⊢
        have hP : va_P (dC, dI) vwCl [(h0, .inr (8, px_mf rf v2)), (rf 46, .inl (c_sheet, 65536, .inl v3))] H := hP
        have hD : va_D A [(h0, .inr (8, px_mf rf v2)), (rf 46, .inl (c_sheet, 65536, .inl v3))] := hD
        refine lv_iconst (v := 0) hx hb px_d106_41 (by decide) ?_
        refine lv_istore_n (lv' := [(2, .int 0), (0, .ref h0), (1, .int x1), (3, .int x3)]) hx hb px_d106_42 rfl hl (by decide) rfl (fun ls hl => ?_)
        exact S43 x1 0 x3 v2 v3 H locs ls hP hD hS (lv_sub hl [1, 2, 0, 3] rfl) hw
      intro x1 x2 x3 iv g_sheet H locs ls hP hD hS hl hw
      unfold w106_L10 at hw
      refine lv_iload_n hx hb px_d106_10 rfl (lv_at hl 3 rfl) ?_
      refine lv_bipush (v := 12) hx hb px_d106_11 (by decide) ?_
      refine lv_icmp_ge (tgt := 49) hx hb px_d106_13 (by decide) (fun c13 => ?_) (fun c13 => ?_)
      · have hw := hw.1 c13
        refine lv_aload_n hx hb px_d106_49 rfl (lv_at hl 0 rfl) ?_
        refine lv_bipush (v := 125) hx hb px_d106_50 (by decide) ?_
        have hPc := hP.sub (ws' := [(h0, .inr (8, px_mf rf iv)), (rf 46, .inl (c_sheet, 65536, .inl g_sheet))]) [0, 1] rfl
        have hDc := hD.sub (ws' := [(h0, .inr (8, px_mf rf iv)), (rf 46, .inl (c_sheet, 65536, .inl g_sheet))]) [0, 1] (by decide) rfl
        have hKc := hK.sub (tys' := [(c_sheet, .byte)]) [0] rfl
        have hFc := va_free (wc := [(h0, .inr (8, px_mf rf iv)), (rf 46, .inl (c_sheet, 65536, .inl g_sheet))]) hD hS hA [0, 1] rfl
        refine va_callv (va_runV (As := [.int 125]) (rest := []) ⟨hx, hb, hml, hown, htw⟩ (mpu_met l dC dI H.size h0 rf c_sheet 125 iv g_sheet _ hw) (cwV 1 htw (px_gv px_w700 px_w375 px_w376 px_w94 px_g37) rfl rfl rfl (by decide +kernel) ⟨Nat.le_of_ble_eq_true rfl, Nat.le_of_ble_eq_true rfl⟩) ⟨fun a U g mk q => by obtain ⟨q0, q1, qP, qK, qD, qN⟩ := q; exact ⟨q0, q1, qP, va_K.moved (u := U) (U := U.calling g mk a) (Vm.Alike.refl U.vm) qK, qD, qN.same rfl⟩, va_recv hK hP (ci := 8) (q0 := 0) rfl rfl, fun U hU hW => ⟨rfl, by rw [hU], by rw [hU]; exact hPc, va_K.moved hW.alike hKc, hDc.weaken (fun _ _ _ _ => trivial), hN.warm hW⟩⟩ rfl rfl hl.1 rfl (lv_room (Nat.le_of_ble_eq_true rfl)) px_d106_52 ⟨(Nat.le_of_ble_eq_true rfl), (Nat.le_of_ble_eq_true rfl)⟩) hS (fun q _ h => hFc q h) hFc (fun u t H1 locs ht hvm hw hB hz1 hk1 hS => ?_)
        obtain ⟨v4, v5⟩ := u
        obtain ⟨hP1, hK1, hD1⟩ := hB
        rw [ht] at hP1
        have hK1 := va_K.moved hvm.symm hK1
        obtain ⟨hP, hD⟩ := va_join (wr := []) (w1 := [(h0, .inr (8, px_mf rf v4)), (rf 46, .inl (c_sheet, 65536, .inl v5))]) hP hD [0, 1] [] rfl rfl (by decide) (by decide) hk1 hFc hP1 hD1
        generalize H1 = H at hP hS ⊢
        have hP : va_P (dC, dI) vwCl [(h0, .inr (8, px_mf rf v4)), (rf 46, .inl (c_sheet, 65536, .inl v5))] H := hP
        have hD : va_D A [(h0, .inr (8, px_mf rf v4)), (rf 46, .inl (c_sheet, 65536, .inl v5))] := hD
        refine lv_aload_n hx hb px_d106_55 rfl (lv_at hl 0 rfl) ?_
        refine lv_bipush (v := 10) hx hb px_d106_56 (by decide) ?_
        have hPc := hP.sub (ws' := [(h0, .inr (8, px_mf rf v4)), (rf 46, .inl (c_sheet, 65536, .inl v5))]) [0, 1] rfl
        have hDc := hD.sub (ws' := [(h0, .inr (8, px_mf rf v4)), (rf 46, .inl (c_sheet, 65536, .inl v5))]) [0, 1] (by decide) rfl
        have hKc := hK.sub (tys' := [(c_sheet, .byte)]) [0] rfl
        have hFc := va_free (wc := [(h0, .inr (8, px_mf rf v4)), (rf 46, .inl (c_sheet, 65536, .inl v5))]) hD hS hA [0, 1] rfl
        refine va_callv (va_runV (As := [.int 10]) (rest := []) ⟨hx, hb, hml, hown, htw⟩ (mpu_met l dC dI H.size h0 rf c_sheet 10 v4 v5 _ hw) (cwV 1 htw (px_gv px_w700 px_w375 px_w376 px_w94 px_g37) rfl rfl rfl (by decide +kernel) ⟨Nat.le_of_ble_eq_true rfl, Nat.le_of_ble_eq_true rfl⟩) ⟨fun a U g mk q => by obtain ⟨q0, q1, qP, qK, qD, qN⟩ := q; exact ⟨q0, q1, qP, va_K.moved (u := U) (U := U.calling g mk a) (Vm.Alike.refl U.vm) qK, qD, qN.same rfl⟩, va_recv hK hP (ci := 8) (q0 := 0) rfl rfl, fun U hU hW => ⟨rfl, by rw [hU], by rw [hU]; exact hPc, va_K.moved hW.alike hKc, hDc.weaken (fun _ _ _ _ => trivial), hN.warm hW⟩⟩ rfl rfl hl.1 rfl (lv_room (Nat.le_of_ble_eq_true rfl)) px_d106_58 ⟨(Nat.le_of_ble_eq_true rfl), (Nat.le_of_ble_eq_true rfl)⟩) hS (fun q _ h => hFc q h) hFc (fun u t H1 locs ht hvm hw hB hz1 hk1 hS => ?_)
        obtain ⟨v6, v7⟩ := u
        obtain ⟨hP1, hK1, hD1⟩ := hB
        rw [ht] at hP1
        have hK1 := va_K.moved hvm.symm hK1
        obtain ⟨hP, hD⟩ := va_join (wr := []) (w1 := [(h0, .inr (8, px_mf rf v6)), (rf 46, .inl (c_sheet, 65536, .inl v7))]) hP hD [0, 1] [] rfl rfl (by decide) (by decide) hk1 hFc hP1 hD1
        generalize H1 = H at hP hS ⊢
        have hP : va_P (dC, dI) vwCl [(h0, .inr (8, px_mf rf v6)), (rf 46, .inl (c_sheet, 65536, .inl v7))] H := hP
        have hD : va_D A [(h0, .inr (8, px_mf rf v6)), (rf 46, .inl (c_sheet, 65536, .inl v7))] := hD
        rw [← hQ]
        exact W.vret hx hb hr (fun t ht hW => ⟨⟨(v6, v7), rfl, hw, by rw [ht]; exact hP, va_K.moved hW.alike hK, hD⟩, hS.F ht⟩) hS.2.2 px_d106_61
      · have hw := hw.2 c13
        refine lv_iload_n hx hb px_d106_16 rfl (lv_at hl 1 rfl) ?_
        refine lv_iload_n hx hb px_d106_17 rfl (lv_at hl 3 rfl) ?_
        refine lv_ishr hx hb px_d106_18 ?_
        refine lv_iconst (v := 1) hx hb px_d106_19 (by decide) ?_
        refine lv_iand hx hb px_d106_20 ?_
        refine lv_iconst (v := 1) hx hb px_d106_21 (by decide) ?_
        refine lv_icmp_ne (tgt := 43) hx hb px_d106_22 (by decide) (fun c22 => ?_) (fun c22 => ?_)
        · have hw := hw.1 c22
          exact S43 x1 x2 x3 iv g_sheet H locs ls hP hD hS (lv_sub hl [0, 1, 2, 3] rfl) hw
        · have hw := hw.2 c22
          refine lv_iload_n hx hb px_d106_25 rfl (lv_at hl 2 rfl) ?_
          refine lv_if_ne (tgt := 35) hx hb px_d106_26 (by decide) (fun c26 => ?_) (fun c26 => ?_)
          · have hw := hw.1 c26
            exact S35 x1 x2 x3 iv g_sheet H locs ls hP hD hS (lv_sub hl [0, 1, 2, 3] rfl) hw
          · have hw := hw.2 c26
            refine lv_aload_n hx hb px_d106_29 rfl (lv_at hl 0 rfl) ?_
            refine lv_bipush (v := 32) hx hb px_d106_30 (by decide) ?_
            have hPc := hP.sub (ws' := [(h0, .inr (8, px_mf rf iv)), (rf 46, .inl (c_sheet, 65536, .inl g_sheet))]) [0, 1] rfl
            have hDc := hD.sub (ws' := [(h0, .inr (8, px_mf rf iv)), (rf 46, .inl (c_sheet, 65536, .inl g_sheet))]) [0, 1] (by decide) rfl
            have hKc := hK.sub (tys' := [(c_sheet, .byte)]) [0] rfl
            have hFc := va_free (wc := [(h0, .inr (8, px_mf rf iv)), (rf 46, .inl (c_sheet, 65536, .inl g_sheet))]) hD hS hA [0, 1] rfl
            refine va_callv (va_runV (As := [.int 32]) (rest := []) ⟨hx, hb, hml, hown, htw⟩ (mpu_met l dC dI H.size h0 rf c_sheet 32 iv g_sheet _ hw) (cwV 1 htw (px_gv px_w700 px_w375 px_w376 px_w94 px_g37) rfl rfl rfl (by decide +kernel) ⟨Nat.le_of_ble_eq_true rfl, Nat.le_of_ble_eq_true rfl⟩) ⟨fun a U g mk q => by obtain ⟨q0, q1, qP, qK, qD, qN⟩ := q; exact ⟨q0, q1, qP, va_K.moved (u := U) (U := U.calling g mk a) (Vm.Alike.refl U.vm) qK, qD, qN.same rfl⟩, va_recv hK hP (ci := 8) (q0 := 0) rfl rfl, fun U hU hW => ⟨rfl, by rw [hU], by rw [hU]; exact hPc, va_K.moved hW.alike hKc, hDc.weaken (fun _ _ _ _ => trivial), hN.warm hW⟩⟩ rfl rfl hl.1 rfl (lv_room (Nat.le_of_ble_eq_true rfl)) px_d106_32 ⟨(Nat.le_of_ble_eq_true rfl), (Nat.le_of_ble_eq_true rfl)⟩) hS (fun q _ h => hFc q h) hFc (fun u t H1 locs ht hvm hw hB hz1 hk1 hS => ?_)
            obtain ⟨v8, v9⟩ := u
            obtain ⟨hP1, hK1, hD1⟩ := hB
            rw [ht] at hP1
            have hK1 := va_K.moved hvm.symm hK1
            obtain ⟨hP, hD⟩ := va_join (wr := []) (w1 := [(h0, .inr (8, px_mf rf v8)), (rf 46, .inl (c_sheet, 65536, .inl v9))]) hP hD [0, 1] [] rfl rfl (by decide) (by decide) hk1 hFc hP1 hD1
            generalize H1 = H at hP hS ⊢
            have hP : va_P (dC, dI) vwCl [(h0, .inr (8, px_mf rf v8)), (rf 46, .inl (c_sheet, 65536, .inl v9))] H := hP
            have hD : va_D A [(h0, .inr (8, px_mf rf v8)), (rf 46, .inl (c_sheet, 65536, .inl v9))] := hD
            exact S35 x1 x2 x3 v8 v9 H locs ls hP hD hS (lv_sub hl [0, 1, 2, 3] rfl) hw
  unfold w106_wp at hw
  have hS0 := hS
  obtain ⟨H, hH9⟩ : ∃ z, z = s.heap := ⟨_, rfl⟩
  have hP : va_P (dC, dI) vwCl [(h0, .inr (8, px_mf rf iv)), (rf 46, .inl (c_sheet, 65536, .inl g_sheet))] H := by rw [hH9]; exact hP
  obtain ⟨locs, hlo9⟩ : ∃ z : List Loc, z = [] := ⟨_, rfl⟩
  have hS : va_S A s.heap H locs := by rw [hH9, hlo9]; exact hS
  suffices hG : W p l e (headSpec px_s106 ({ frames := 3, cells := 0, slots := 0, locals := 70 })).room s m ([.ref h0, .int a1x]).toArray below meth c H locs 0 0 Q (F0 m 0 ls []) by rw [hH9, hlo9] at hG; exact hG
  refine lv_aload_n hx hb px_d106_0 rfl (lv_at hl 0 rfl) ?_
  refine lv_bipush (v := 123) hx hb px_d106_1 (by decide) ?_
  have hPc := hP.sub (ws' := [(h0, .inr (8, px_mf rf iv)), (rf 46, .inl (c_sheet, 65536, .inl g_sheet))]) [0, 1] rfl
  have hDc := hD.sub (ws' := [(h0, .inr (8, px_mf rf iv)), (rf 46, .inl (c_sheet, 65536, .inl g_sheet))]) [0, 1] (by decide) rfl
  have hKc := hK.sub (tys' := [(c_sheet, .byte)]) [0] rfl
  have hFc := va_free (wc := [(h0, .inr (8, px_mf rf iv)), (rf 46, .inl (c_sheet, 65536, .inl g_sheet))]) hD hS hA [0, 1] rfl
  refine va_callv (va_runV (As := [.int 123]) (rest := []) ⟨hx, hb, hml, hown, htw⟩ (mpu_met l dC dI H.size h0 rf c_sheet 123 iv g_sheet _ hw) (cwV 1 htw (px_gv px_w700 px_w375 px_w376 px_w94 px_g37) rfl rfl rfl (by decide +kernel) ⟨Nat.le_of_ble_eq_true rfl, Nat.le_of_ble_eq_true rfl⟩) ⟨fun a U g mk q => by obtain ⟨q0, q1, qP, qK, qD, qN⟩ := q; exact ⟨q0, q1, qP, va_K.moved (u := U) (U := U.calling g mk a) (Vm.Alike.refl U.vm) qK, qD, qN.same rfl⟩, va_recv hK hP (ci := 8) (q0 := 0) rfl rfl, fun U hU hW => ⟨rfl, by rw [hU], by rw [hU]; exact hPc, va_K.moved hW.alike hKc, hDc.weaken (fun _ _ _ _ => trivial), hN.warm hW⟩⟩ rfl rfl hl.1 rfl (lv_room (Nat.le_of_ble_eq_true rfl)) px_d106_3 ⟨(Nat.le_of_ble_eq_true rfl), (Nat.le_of_ble_eq_true rfl)⟩) hS (fun q _ h => hFc q h) hFc (fun u t H1 locs ht hvm hw hB hz1 hk1 hS => ?_)
  obtain ⟨v10, v11⟩ := u
  obtain ⟨hP1, hK1, hD1⟩ := hB
  rw [ht] at hP1
  have hK1 := va_K.moved hvm.symm hK1
  obtain ⟨hP, hD⟩ := va_join (wr := []) (w1 := [(h0, .inr (8, px_mf rf v10)), (rf 46, .inl (c_sheet, 65536, .inl v11))]) hP hD [0, 1] [] rfl rfl (by decide) (by decide) hk1 hFc hP1 hD1
  generalize H1 = H at hP hS ⊢
  have hP : va_P (dC, dI) vwCl [(h0, .inr (8, px_mf rf v10)), (rf 46, .inl (c_sheet, 65536, .inl v11))] H := hP
  have hD : va_D A [(h0, .inr (8, px_mf rf v10)), (rf 46, .inl (c_sheet, 65536, .inl v11))] := hD
  refine lv_iconst (v := 1) hx hb px_d106_6 (by decide) ?_
  refine lv_istore_n (lv' := [(2, .int 1), (0, .ref h0), (1, .int a1x)]) hx hb px_d106_7 rfl hl (by decide) rfl (fun ls hl => ?_)
  refine lv_iconst (v := 0) hx hb px_d106_8 (by decide) ?_
  refine lv_istore_n (lv' := [(3, .int 0), (2, .int 1), (0, .ref h0), (1, .int a1x)]) hx hb px_d106_9 rfl hl (by decide) rfl (fun ls hl => ?_)
  obtain ⟨k9, hw⟩ := hw
  exact S10 k9 a1x 1 0 v10 v11 H locs ls hP hD hS (lv_sub hl [2, 3, 1, 0] rfl) hw

/-! MatroidDeskModel.power(II)V -/
def w109_L22 (post : (Nat → Int32) → (Nat → Int32) → Prop) (x1 : Int32) (x2 : Int32) (iv : Nat → Int32) (g_sheet : Nat → Int32) : Prop := post iv g_sheet
def w109_wp (post : (Nat → Int32) → (Nat → Int32) → Prop) (a1x : Int32) (a2x : Int32) (iv : Nat → Int32) (g_sheet : Nat → Int32) : Prop := mpu_wp (fun v1 v2 => (a2x ≤ 1 → w109_L22 post a1x a2x v1 v2) ∧ (¬ a2x ≤ 1 → mpu_wp (fun v3 v4 => w105_wp (fun v5 v6 => w109_L22 post a1x a2x v5 v6) a2x.toInt64 v3 v4) 94 v1 v2)) a1x iv g_sheet
set_option maxHeartbeats 8000000 in
set_option maxRecDepth 100000 in
theorem w109_met (l : Launch) (dC : Nat → ClassId) (dI : Nat → Nat → Nat) (sz : Nat) (h0 : Nat) (rf : Nat → Nat) (c_sheet : ClassId) (a1x : Int32) (a2x : Int32) (iv : Nat → Int32) (g_sheet : Nat → Int32) (post : (Nat → Int32) → (Nat → Int32) → Prop) (hw : w109_wp post a1x a2x iv g_sheet) : Met l px_y109 px_s109 ({ frames := 3, cells := 0, slots := 0, locals := 70 }) (va_Pc [.ref h0, .int a1x, .int a2x] (fun U => U.heap.size = sz ∧ va_P (dC, dI) vwCl [(h0, .inr (8, px_mf rf iv)), (rf 46, .inl (c_sheet, 65536, .inl g_sheet))] U.heap ∧ va_K (dC, dI) vwCl [(c_sheet, .byte)] U ∧ va_D (fun _ => True) [(h0, .inr (8, px_mf rf iv)), (rf 46, .inl (c_sheet, 65536, .inl g_sheet))] ∧ px_N U)) (va_Qv (fun (u : (Nat → Int32) × (Nat → Int32)) => post u.1 u.2) (fun (u : (Nat → Int32) × (Nat → Int32)) (t : State) => va_P (dC, dI) vwCl [(h0, .inr (8, px_mf rf u.1)), (rf 46, .inl (c_sheet, 65536, .inl u.2))] t.heap ∧ va_K (dC, dI) vwCl [(c_sheet, .byte)] t ∧ va_D (va_A [(h0, .inr (8, px_mf rf iv)), (rf 46, .inl (c_sheet, 65536, .inl g_sheet))] sz) [(h0, .inr (8, px_mf rf u.1)), (rf 46, .inl (c_sheet, 65536, .inl u.2))]) (va_A [(h0, .inr (8, px_mf rf iv)), (rf 46, .inl (c_sheet, 65536, .inl g_sheet))] sz)) 0 0 (va_A [(h0, .inr (8, px_mf rf iv)), (rf 46, .inl (c_sheet, 65536, .inl g_sheet))] sz) := by
  refine Met.ofW (cc := prog_15_method_80_code) (maxL := 3) (ret := none) (by decide) rfl ?_
  intro p e s m args below meth c s₁ B hml hv
  obtain ⟨rfl, hsz, hP, hK, hD0, hN⟩ := hv
  have hx := B.exec
  have hb := B.bytes
  have hr := B.returns
  have htw : ∀ w ∈ px_all, w.before _ s = true := fun w h => atoms_spec (ws := px_s109) B.pre w (List.mem_cons_of_mem _ h)
  have hown : s.vm.findClass "MatroidDeskModel" = some m.cls := findClass_of_methodNamed B.named
  have hlocks := B.notSynchronized
  subst hsz
  have hD := hD0.self (sz := s.heap.size)
  generalize hAe : va_A [(h0, .inr (8, px_mf rf iv)), (rf 46, .inl (c_sheet, 65536, .inl g_sheet))] s.heap.size = A at hD ⊢
  have hA : ∀ q : Nat, s.heap.size ≤ q → A q := fun q h => by rw [← hAe]; exact Or.inr h
  have hS : va_S A s.heap s.heap [] := va_S.rf
  have hP : va_P (dC, dI) vwCl [(h0, .inr (8, px_mf rf iv)), (rf 46, .inl (c_sheet, 65536, .inl g_sheet))] s.heap := hP
  have hl := lv_entry ([.ref h0, .int a1x, .int a2x]) (n := 3) (Nat.le_of_ble_eq_true rfl)
  rw [lg_entry_eq]
  generalize (lg_sl ([.ref h0, .int a1x, .int a2x]) ++ List.replicate (3 - (lg_sl ([.ref h0, .int a1x, .int a2x])).length) Slot.unset).toArray = ls at hl ⊢
  have hl : lv_has ls 3 [(0, .ref h0), (1, .int a1x), (2, .int a2x)] := hl
  generalize hQ : MQ _ _ _ _ _ _ _ = Q
  have S22 : ∀ (x1 : Int32) (x2 : Int32) (iv : Nat → Int32) (g_sheet : Nat → Int32) (H : Heap) (locs : List Loc) (ls : Array Slot), va_P (dC, dI) vwCl [(h0, .inr (8, px_mf rf iv)), (rf 46, .inl (c_sheet, 65536, .inl g_sheet))] H → va_D A [(h0, .inr (8, px_mf rf iv)), (rf 46, .inl (c_sheet, 65536, .inl g_sheet))] → va_S A s.heap H locs → lv_has ls 3 [(0, .ref h0), (1, .int x1), (2, .int x2)] → w109_L22 post x1 x2 iv g_sheet → W p l e (headSpec px_s109 ({ frames := 3, cells := 0, slots := 0, locals := 70 })).room s m ([.ref h0, .int a1x, .int a2x]).toArray below meth c H locs 0 0 Q (F0 m 22 ls []) := by
    intro x1 x2 iv g_sheet H locs ls hP hD hS hl hw
    unfold w109_L22 at hw
    rw [← hQ]
    exact W.vret hx hb hr (fun t ht hW => ⟨⟨(iv, g_sheet), rfl, hw, by rw [ht]; exact hP, va_K.moved hW.alike hK, hD⟩, hS.F ht⟩) hS.2.2 px_d109_22
  unfold w109_wp at hw
  have hS0 := hS
  obtain ⟨H, hH9⟩ : ∃ z, z = s.heap := ⟨_, rfl⟩
  have hP : va_P (dC, dI) vwCl [(h0, .inr (8, px_mf rf iv)), (rf 46, .inl (c_sheet, 65536, .inl g_sheet))] H := by rw [hH9]; exact hP
  obtain ⟨locs, hlo9⟩ : ∃ z : List Loc, z = [] := ⟨_, rfl⟩
  have hS : va_S A s.heap H locs := by rw [hH9, hlo9]; exact hS
  suffices hG : W p l e (headSpec px_s109 ({ frames := 3, cells := 0, slots := 0, locals := 70 })).room s m ([.ref h0, .int a1x, .int a2x]).toArray below meth c H locs 0 0 Q (F0 m 0 ls []) by rw [hH9, hlo9] at hG; exact hG
  refine lv_aload_n hx hb px_d109_0 rfl (lv_at hl 0 rfl) ?_
  refine lv_iload_n hx hb px_d109_1 rfl (lv_at hl 1 rfl) ?_
  have hPc := hP.sub (ws' := [(h0, .inr (8, px_mf rf iv)), (rf 46, .inl (c_sheet, 65536, .inl g_sheet))]) [0, 1] rfl
  have hDc := hD.sub (ws' := [(h0, .inr (8, px_mf rf iv)), (rf 46, .inl (c_sheet, 65536, .inl g_sheet))]) [0, 1] (by decide) rfl
  have hKc := hK.sub (tys' := [(c_sheet, .byte)]) [0] rfl
  have hFc := va_free (wc := [(h0, .inr (8, px_mf rf iv)), (rf 46, .inl (c_sheet, 65536, .inl g_sheet))]) hD hS hA [0, 1] rfl
  refine va_callv (va_runV (As := [.int a1x]) (rest := []) ⟨hx, hb, hml, hown, htw⟩ (mpu_met l dC dI H.size h0 rf c_sheet a1x iv g_sheet _ hw) (cwV 1 htw (px_gv px_w700 px_w375 px_w376 px_w94 px_g37) rfl rfl rfl (by decide +kernel) ⟨Nat.le_of_ble_eq_true rfl, Nat.le_of_ble_eq_true rfl⟩) ⟨fun a U g mk q => by obtain ⟨q0, q1, qP, qK, qD, qN⟩ := q; exact ⟨q0, q1, qP, va_K.moved (u := U) (U := U.calling g mk a) (Vm.Alike.refl U.vm) qK, qD, qN.same rfl⟩, va_recv hK hP (ci := 8) (q0 := 0) rfl rfl, fun U hU hW => ⟨rfl, by rw [hU], by rw [hU]; exact hPc, va_K.moved hW.alike hKc, hDc.weaken (fun _ _ _ _ => trivial), hN.warm hW⟩⟩ rfl rfl hl.1 rfl (lv_room (Nat.le_of_ble_eq_true rfl)) px_d109_2 ⟨(Nat.le_of_ble_eq_true rfl), (Nat.le_of_ble_eq_true rfl)⟩) hS (fun q _ h => hFc q h) hFc (fun u t H1 locs ht hvm hw hB hz1 hk1 hS => ?_)
  obtain ⟨v1, v2⟩ := u
  obtain ⟨hP1, hK1, hD1⟩ := hB
  rw [ht] at hP1
  have hK1 := va_K.moved hvm.symm hK1
  obtain ⟨hP, hD⟩ := va_join (wr := []) (w1 := [(h0, .inr (8, px_mf rf v1)), (rf 46, .inl (c_sheet, 65536, .inl v2))]) hP hD [0, 1] [] rfl rfl (by decide) (by decide) hk1 hFc hP1 hD1
  generalize H1 = H at hP hS ⊢
  have hP : va_P (dC, dI) vwCl [(h0, .inr (8, px_mf rf v1)), (rf 46, .inl (c_sheet, 65536, .inl v2))] H := hP
  have hD : va_D A [(h0, .inr (8, px_mf rf v1)), (rf 46, .inl (c_sheet, 65536, .inl v2))] := hD
  refine lv_iload_n hx hb px_d109_5 rfl (lv_at hl 2 rfl) ?_
  refine lv_iconst (v := 1) hx hb px_d109_6 (by decide) ?_
  refine lv_icmp_le (tgt := 22) hx hb px_d109_7 (by decide) (fun c7 => ?_) (fun c7 => ?_)
  · have hw := hw.1 c7
    exact S22 a1x a2x v1 v2 H locs ls hP hD hS (lv_sub hl [0, 1, 2] rfl) hw
  · have hw := hw.2 c7
    refine lv_aload_n hx hb px_d109_10 rfl (lv_at hl 0 rfl) ?_
    refine lv_bipush (v := 94) hx hb px_d109_11 (by decide) ?_
    have hPc := hP.sub (ws' := [(h0, .inr (8, px_mf rf v1)), (rf 46, .inl (c_sheet, 65536, .inl v2))]) [0, 1] rfl
    have hDc := hD.sub (ws' := [(h0, .inr (8, px_mf rf v1)), (rf 46, .inl (c_sheet, 65536, .inl v2))]) [0, 1] (by decide) rfl
    have hKc := hK.sub (tys' := [(c_sheet, .byte)]) [0] rfl
    have hFc := va_free (wc := [(h0, .inr (8, px_mf rf v1)), (rf 46, .inl (c_sheet, 65536, .inl v2))]) hD hS hA [0, 1] rfl
    refine va_callv (va_runV (As := [.int 94]) (rest := []) ⟨hx, hb, hml, hown, htw⟩ (mpu_met l dC dI H.size h0 rf c_sheet 94 v1 v2 _ hw) (cwV 1 htw (px_gv px_w700 px_w375 px_w376 px_w94 px_g37) rfl rfl rfl (by decide +kernel) ⟨Nat.le_of_ble_eq_true rfl, Nat.le_of_ble_eq_true rfl⟩) ⟨fun a U g mk q => by obtain ⟨q0, q1, qP, qK, qD, qN⟩ := q; exact ⟨q0, q1, qP, va_K.moved (u := U) (U := U.calling g mk a) (Vm.Alike.refl U.vm) qK, qD, qN.same rfl⟩, va_recv hK hP (ci := 8) (q0 := 0) rfl rfl, fun U hU hW => ⟨rfl, by rw [hU], by rw [hU]; exact hPc, va_K.moved hW.alike hKc, hDc.weaken (fun _ _ _ _ => trivial), hN.warm hW⟩⟩ rfl rfl hl.1 rfl (lv_room (Nat.le_of_ble_eq_true rfl)) px_d109_13 ⟨(Nat.le_of_ble_eq_true rfl), (Nat.le_of_ble_eq_true rfl)⟩) hS (fun q _ h => hFc q h) hFc (fun u t H1 locs ht hvm hw hB hz1 hk1 hS => ?_)
    obtain ⟨v3, v4⟩ := u
    obtain ⟨hP1, hK1, hD1⟩ := hB
    rw [ht] at hP1
    have hK1 := va_K.moved hvm.symm hK1
    obtain ⟨hP, hD⟩ := va_join (wr := []) (w1 := [(h0, .inr (8, px_mf rf v3)), (rf 46, .inl (c_sheet, 65536, .inl v4))]) hP hD [0, 1] [] rfl rfl (by decide) (by decide) hk1 hFc hP1 hD1
    generalize H1 = H at hP hS ⊢
    have hP : va_P (dC, dI) vwCl [(h0, .inr (8, px_mf rf v3)), (rf 46, .inl (c_sheet, 65536, .inl v4))] H := hP
    have hD : va_D A [(h0, .inr (8, px_mf rf v3)), (rf 46, .inl (c_sheet, 65536, .inl v4))] := hD
    refine lv_aload_n hx hb px_d109_16 rfl (lv_at hl 0 rfl) ?_
    refine lv_iload_n hx hb px_d109_17 rfl (lv_at hl 2 rfl) ?_
    refine lv_i2l (v := a2x.toInt64) hx hb px_d109_18 rfl ?_
    have hPc := hP.sub (ws' := [(h0, .inr (8, px_mf rf v3)), (rf 46, .inl (c_sheet, 65536, .inl v4))]) [0, 1] rfl
    have hDc := hD.sub (ws' := [(h0, .inr (8, px_mf rf v3)), (rf 46, .inl (c_sheet, 65536, .inl v4))]) [0, 1] (by decide) rfl
    have hKc := hK.sub (tys' := [(c_sheet, .byte)]) [0] rfl
    have hFc := va_free (wc := [(h0, .inr (8, px_mf rf v3)), (rf 46, .inl (c_sheet, 65536, .inl v4))]) hD hS hA [0, 1] rfl
    refine va_callv (va_runV (As := [.long a2x.toInt64]) (rest := []) ⟨hx, hb, hml, hown, htw⟩ (w105_met l dC dI H.size h0 rf c_sheet a2x.toInt64 v3 v4 _ hw) (cwV 1 htw (px_gv px_w707 px_w698 px_w699 px_w94 px_g105) rfl rfl rfl (by decide +kernel) ⟨Nat.le_of_ble_eq_true rfl, Nat.le_of_ble_eq_true rfl⟩) ⟨fun a U g mk q => by obtain ⟨q0, q1, qP, qK, qD, qN⟩ := q; exact ⟨q0, q1, qP, va_K.moved (u := U) (U := U.calling g mk a) (Vm.Alike.refl U.vm) qK, qD, qN.same rfl⟩, va_recv hK hP (ci := 8) (q0 := 0) rfl rfl, fun U hU hW => ⟨rfl, by rw [hU], by rw [hU]; exact hPc, va_K.moved hW.alike hKc, hDc.weaken (fun _ _ _ _ => trivial), hN.warm hW⟩⟩ rfl rfl hl.1 rfl (lv_room (Nat.le_of_ble_eq_true rfl)) px_d109_19 ⟨(Nat.le_of_ble_eq_true rfl), (Nat.le_of_ble_eq_true rfl)⟩) hS (fun q _ h => hFc q h) hFc (fun u t H1 locs ht hvm hw hB hz1 hk1 hS => ?_)
    obtain ⟨v5, v6⟩ := u
    obtain ⟨hP1, hK1, hD1⟩ := hB
    rw [ht] at hP1
    have hK1 := va_K.moved hvm.symm hK1
    obtain ⟨hP, hD⟩ := va_join (wr := []) (w1 := [(h0, .inr (8, px_mf rf v5)), (rf 46, .inl (c_sheet, 65536, .inl v6))]) hP hD [0, 1] [] rfl rfl (by decide) (by decide) hk1 hFc hP1 hD1
    generalize H1 = H at hP hS ⊢
    have hP : va_P (dC, dI) vwCl [(h0, .inr (8, px_mf rf v5)), (rf 46, .inl (c_sheet, 65536, .inl v6))] H := hP
    have hD : va_D A [(h0, .inr (8, px_mf rf v5)), (rf 46, .inl (c_sheet, 65536, .inl v6))] := hD
    exact S22 a1x a2x v5 v6 H locs ls hP hD hS (lv_sub hl [0, 1, 2] rfl) hw

/-! MatroidDeskModel.putFamily(II)V -/
def w111_L48 (K2 : Int32 → Int32 → Int32 → (Nat → Int32) → (Nat → Int32) → (Nat → Int32) → (Nat → Int32) → (Nat → Int32) → (Nat → Int32) → (Nat → Int32) → Prop) (post : (Nat → Int32) → (Nat → Int32) → (Nat → Int32) → (Nat → Int32) → (Nat → Int32) → (Nat → Int32) → (Nat → Int32) → Prop) (x1 : Int32) (x2 : Int32) (x3 : Int32) (iv : Nat → Int32) (g_elements : Nat → Int32) (g_ranks : Nat → Int32) (g_rankOf : Nat → Int32) (g_order : Nat → Int32) (g_sizes : Nat → Int32) (g_sheet : Nat → Int32) : Prop := ∀ z1 : Int32, z1 = x3 + 1 → K2 x1 x2 z1 iv g_elements g_ranks g_rankOf g_order g_sizes g_sheet
def w111_L2 (post : (Nat → Int32) → (Nat → Int32) → (Nat → Int32) → (Nat → Int32) → (Nat → Int32) → (Nat → Int32) → (Nat → Int32) → Prop) : Nat → Int32 → Int32 → Int32 → (Nat → Int32) → (Nat → Int32) → (Nat → Int32) → (Nat → Int32) → (Nat → Int32) → (Nat → Int32) → (Nat → Int32) → Prop
  | 0 => fun _ _ _ _ _ _ _ _ _ _ => False
  | k + 1 => fun x1 x2 x3 iv g_elements g_ranks g_rankOf g_order g_sizes g_sheet => (4096 ≤ x3 → post iv g_elements g_ranks g_rankOf g_order g_sizes g_sheet) ∧ (¬ 4096 ≤ x3 → vp_in x3 4096 ∧ (w71_wp (fun r17 v2 v3 => (r17 < (g_order (Int32.toNatClampNeg x3)) → w111_L48 (w111_L2 post k) post x1 x2 x3 v2 v3 g_ranks g_rankOf g_order g_sizes g_sheet) ∧ (¬ r17 < (g_order (Int32.toNatClampNeg x3)) → vp_in x3 4096 ∧ (w76_wp (fun r32 v4 v5 v6 v7 v8 => (r32 = 0 → w111_L48 (w111_L2 post k) post x1 x2 x3 v4 v5 v6 v7 g_order v8 g_sheet) ∧ (¬ r32 = 0 → vp_in x3 4096 ∧ (w106_wp (fun v9 v10 => w111_L48 (w111_L2 post k) post x1 x2 x3 v9 v5 v6 v7 g_order v8 v10) (g_order (Int32.toNatClampNeg x3)) v4 g_sheet))) x1 x2 (g_order (Int32.toNatClampNeg x3)) v2 v3 g_ranks g_rankOf g_sizes))) x1 iv g_elements))
def w111_wp (post : (Nat → Int32) → (Nat → Int32) → (Nat → Int32) → (Nat → Int32) → (Nat → Int32) → (Nat → Int32) → (Nat → Int32) → Prop) (a1x : Int32) (a2x : Int32) (iv : Nat → Int32) (g_elements : Nat → Int32) (g_ranks : Nat → Int32) (g_rankOf : Nat → Int32) (g_order : Nat → Int32) (g_sizes : Nat → Int32) (g_sheet : Nat → Int32) : Prop := ∃ j2, w111_L2 post j2 a1x a2x 0 iv g_elements g_ranks g_rankOf g_order g_sizes g_sheet
set_option maxHeartbeats 8000000 in
set_option maxRecDepth 100000 in
theorem w111_met (l : Launch) (dC : Nat → ClassId) (dI : Nat → Nat → Nat) (sz : Nat) (h0 : Nat) (rf : Nat → Nat) (c_elements : ClassId) (c_ranks : ClassId) (c_rankOf : ClassId) (c_order : ClassId) (c_sizes : ClassId) (c_sheet : ClassId) (a1x : Int32) (a2x : Int32) (iv : Nat → Int32) (g_elements : Nat → Int32) (g_ranks : Nat → Int32) (g_rankOf : Nat → Int32) (g_order : Nat → Int32) (g_sizes : Nat → Int32) (g_sheet : Nat → Int32) (post : (Nat → Int32) → (Nat → Int32) → (Nat → Int32) → (Nat → Int32) → (Nat → Int32) → (Nat → Int32) → (Nat → Int32) → Prop) (hw : w111_wp post a1x a2x iv g_elements g_ranks g_rankOf g_order g_sizes g_sheet) : Met l px_y111 px_s111 ({ frames := 4, cells := 0, slots := 0, locals := 93 }) (va_Pc [.ref h0, .int a1x, .int a2x] (fun U => U.heap.size = sz ∧ va_P (dC, dI) vwCl [(h0, .inr (8, px_mf rf iv)), (rf 19, .inl (c_elements, 26, .inl g_elements)), (rf 21, .inl (c_ranks, 26, .inl g_ranks)), (rf 25, .inl (c_rankOf, 106496, .inl g_rankOf)), (rf 27, .inl (c_order, 4096, .inl g_order)), (rf 28, .inl (c_sizes, 4096, .inl g_sizes)), (rf 46, .inl (c_sheet, 65536, .inl g_sheet))] U.heap ∧ va_K (dC, dI) vwCl [(c_elements, .int), (c_ranks, .int), (c_rankOf, .byte), (c_order, .int), (c_sizes, .int), (c_sheet, .byte)] U ∧ va_D (fun _ => True) [(h0, .inr (8, px_mf rf iv)), (rf 19, .inl (c_elements, 26, .inl g_elements)), (rf 21, .inl (c_ranks, 26, .inl g_ranks)), (rf 25, .inl (c_rankOf, 106496, .inl g_rankOf)), (rf 27, .inl (c_order, 4096, .inl g_order)), (rf 28, .inl (c_sizes, 4096, .inl g_sizes)), (rf 46, .inl (c_sheet, 65536, .inl g_sheet))] ∧ px_N U)) (va_Qv (fun (u : (Nat → Int32) × (Nat → Int32) × (Nat → Int32) × (Nat → Int32) × (Nat → Int32) × (Nat → Int32) × (Nat → Int32)) => post u.1 u.2.1 u.2.2.1 u.2.2.2.1 u.2.2.2.2.1 u.2.2.2.2.2.1 u.2.2.2.2.2.2) (fun (u : (Nat → Int32) × (Nat → Int32) × (Nat → Int32) × (Nat → Int32) × (Nat → Int32) × (Nat → Int32) × (Nat → Int32)) (t : State) => va_P (dC, dI) vwCl [(h0, .inr (8, px_mf rf u.1)), (rf 19, .inl (c_elements, 26, .inl u.2.1)), (rf 21, .inl (c_ranks, 26, .inl u.2.2.1)), (rf 25, .inl (c_rankOf, 106496, .inl u.2.2.2.1)), (rf 27, .inl (c_order, 4096, .inl u.2.2.2.2.1)), (rf 28, .inl (c_sizes, 4096, .inl u.2.2.2.2.2.1)), (rf 46, .inl (c_sheet, 65536, .inl u.2.2.2.2.2.2))] t.heap ∧ va_K (dC, dI) vwCl [(c_elements, .int), (c_ranks, .int), (c_rankOf, .byte), (c_order, .int), (c_sizes, .int), (c_sheet, .byte)] t ∧ va_D (va_A [(h0, .inr (8, px_mf rf iv)), (rf 19, .inl (c_elements, 26, .inl g_elements)), (rf 21, .inl (c_ranks, 26, .inl g_ranks)), (rf 25, .inl (c_rankOf, 106496, .inl g_rankOf)), (rf 27, .inl (c_order, 4096, .inl g_order)), (rf 28, .inl (c_sizes, 4096, .inl g_sizes)), (rf 46, .inl (c_sheet, 65536, .inl g_sheet))] sz) [(h0, .inr (8, px_mf rf u.1)), (rf 19, .inl (c_elements, 26, .inl u.2.1)), (rf 21, .inl (c_ranks, 26, .inl u.2.2.1)), (rf 25, .inl (c_rankOf, 106496, .inl u.2.2.2.1)), (rf 27, .inl (c_order, 4096, .inl u.2.2.2.2.1)), (rf 28, .inl (c_sizes, 4096, .inl u.2.2.2.2.2.1)), (rf 46, .inl (c_sheet, 65536, .inl u.2.2.2.2.2.2))]) (va_A [(h0, .inr (8, px_mf rf iv)), (rf 19, .inl (c_elements, 26, .inl g_elements)), (rf 21, .inl (c_ranks, 26, .inl g_ranks)), (rf 25, .inl (c_rankOf, 106496, .inl g_rankOf)), (rf 27, .inl (c_order, 4096, .inl g_order)), (rf 28, .inl (c_sizes, 4096, .inl g_sizes)), (rf 46, .inl (c_sheet, 65536, .inl g_sheet))] sz)) 0 0 (va_A [(h0, .inr (8, px_mf rf iv)), (rf 19, .inl (c_elements, 26, .inl g_elements)), (rf 21, .inl (c_ranks, 26, .inl g_ranks)), (rf 25, .inl (c_rankOf, 106496, .inl g_rankOf)), (rf 27, .inl (c_order, 4096, .inl g_order)), (rf 28, .inl (c_sizes, 4096, .inl g_sizes)), (rf 46, .inl (c_sheet, 65536, .inl g_sheet))] sz) := by
  refine Met.ofW (cc := prog_15_method_82_code) (maxL := 4) (ret := none) (by decide) rfl ?_
  intro p e s m args below meth c s₁ B hml hv
  obtain ⟨rfl, hsz, hP, hK, hD0, hN⟩ := hv
  have hx := B.exec
  have hb := B.bytes
  have hr := B.returns
  have htw : ∀ w ∈ px_all, w.before _ s = true := fun w h => atoms_spec (ws := px_s111) B.pre w (List.mem_cons_of_mem _ h)
  have hown : s.vm.findClass "MatroidDeskModel" = some m.cls := findClass_of_methodNamed B.named
  have hlocks := B.notSynchronized
  subst hsz
  have hD := hD0.self (sz := s.heap.size)
  generalize hAe : va_A [(h0, .inr (8, px_mf rf iv)), (rf 19, .inl (c_elements, 26, .inl g_elements)), (rf 21, .inl (c_ranks, 26, .inl g_ranks)), (rf 25, .inl (c_rankOf, 106496, .inl g_rankOf)), (rf 27, .inl (c_order, 4096, .inl g_order)), (rf 28, .inl (c_sizes, 4096, .inl g_sizes)), (rf 46, .inl (c_sheet, 65536, .inl g_sheet))] s.heap.size = A at hD ⊢
  have hA : ∀ q : Nat, s.heap.size ≤ q → A q := fun q h => by rw [← hAe]; exact Or.inr h
  have hS : va_S A s.heap s.heap [] := va_S.rf
  have hP : va_P (dC, dI) vwCl [(h0, .inr (8, px_mf rf iv)), (rf 19, .inl (c_elements, 26, .inl g_elements)), (rf 21, .inl (c_ranks, 26, .inl g_ranks)), (rf 25, .inl (c_rankOf, 106496, .inl g_rankOf)), (rf 27, .inl (c_order, 4096, .inl g_order)), (rf 28, .inl (c_sizes, 4096, .inl g_sizes)), (rf 46, .inl (c_sheet, 65536, .inl g_sheet))] s.heap := hP
  have hl := lv_entry ([.ref h0, .int a1x, .int a2x]) (n := 4) (Nat.le_of_ble_eq_true rfl)
  rw [lg_entry_eq]
  generalize (lg_sl ([.ref h0, .int a1x, .int a2x]) ++ List.replicate (4 - (lg_sl ([.ref h0, .int a1x, .int a2x])).length) Slot.unset).toArray = ls at hl ⊢
  have hl : lv_has ls 4 [(0, .ref h0), (1, .int a1x), (2, .int a2x)] := hl
  generalize hQ : MQ _ _ _ _ _ _ _ = Q
  have S2 : ∀ (k2 : Nat) (x1 : Int32) (x2 : Int32) (x3 : Int32) (iv : Nat → Int32) (g_elements : Nat → Int32) (g_ranks : Nat → Int32) (g_rankOf : Nat → Int32) (g_order : Nat → Int32) (g_sizes : Nat → Int32) (g_sheet : Nat → Int32) (H : Heap) (locs : List Loc) (ls : Array Slot), va_P (dC, dI) vwCl [(h0, .inr (8, px_mf rf iv)), (rf 19, .inl (c_elements, 26, .inl g_elements)), (rf 21, .inl (c_ranks, 26, .inl g_ranks)), (rf 25, .inl (c_rankOf, 106496, .inl g_rankOf)), (rf 27, .inl (c_order, 4096, .inl g_order)), (rf 28, .inl (c_sizes, 4096, .inl g_sizes)), (rf 46, .inl (c_sheet, 65536, .inl g_sheet))] H → va_D A [(h0, .inr (8, px_mf rf iv)), (rf 19, .inl (c_elements, 26, .inl g_elements)), (rf 21, .inl (c_ranks, 26, .inl g_ranks)), (rf 25, .inl (c_rankOf, 106496, .inl g_rankOf)), (rf 27, .inl (c_order, 4096, .inl g_order)), (rf 28, .inl (c_sizes, 4096, .inl g_sizes)), (rf 46, .inl (c_sheet, 65536, .inl g_sheet))] → va_S A s.heap H locs → lv_has ls 4 [(0, .ref h0), (1, .int x1), (2, .int x2), (3, .int x3)] → w111_L2 post k2 x1 x2 x3 iv g_elements g_ranks g_rankOf g_order g_sizes g_sheet → W p l e (headSpec px_s111 ({ frames := 4, cells := 0, slots := 0, locals := 93 })).room s m ([.ref h0, .int a1x, .int a2x]).toArray below meth c H locs 0 0 Q (F0 m 2 ls []) := by
    intro k2
    induction k2 with
    | zero => intro x1 x2 x3 iv g_elements g_ranks g_rankOf g_order g_sizes g_sheet H locs ls hP hD hS hl hw; exact False.elim hw
    | succ k2 ih2 =>
      have S48 : ∀ (x1 : Int32) (x2 : Int32) (x3 : Int32) (iv : Nat → Int32) (g_elements : Nat → Int32) (g_ranks : Nat → Int32) (g_rankOf : Nat → Int32) (g_order : Nat → Int32) (g_sizes : Nat → Int32) (g_sheet : Nat → Int32) (H : Heap) (locs : List Loc) (ls : Array Slot), va_P (dC, dI) vwCl [(h0, .inr (8, px_mf rf iv)), (rf 19, .inl (c_elements, 26, .inl g_elements)), (rf 21, .inl (c_ranks, 26, .inl g_ranks)), (rf 25, .inl (c_rankOf, 106496, .inl g_rankOf)), (rf 27, .inl (c_order, 4096, .inl g_order)), (rf 28, .inl (c_sizes, 4096, .inl g_sizes)), (rf 46, .inl (c_sheet, 65536, .inl g_sheet))] H → va_D A [(h0, .inr (8, px_mf rf iv)), (rf 19, .inl (c_elements, 26, .inl g_elements)), (rf 21, .inl (c_ranks, 26, .inl g_ranks)), (rf 25, .inl (c_rankOf, 106496, .inl g_rankOf)), (rf 27, .inl (c_order, 4096, .inl g_order)), (rf 28, .inl (c_sizes, 4096, .inl g_sizes)), (rf 46, .inl (c_sheet, 65536, .inl g_sheet))] → va_S A s.heap H locs → lv_has ls 4 [(0, .ref h0), (1, .int x1), (2, .int x2), (3, .int x3)] → w111_L48 (w111_L2 post k2) post x1 x2 x3 iv g_elements g_ranks g_rankOf g_order g_sizes g_sheet → W p l e (headSpec px_s111 ({ frames := 4, cells := 0, slots := 0, locals := 93 })).room s m ([.ref h0, .int a1x, .int a2x]).toArray below meth c H locs 0 0 Q (F0 m 48 ls []) := by
        intro x1 x2 x3 iv g_elements g_ranks g_rankOf g_order g_sizes g_sheet H locs ls hP hD hS hl hw
        unfold w111_L48 at hw
        obtain ⟨z1, ez1⟩ : ∃ y : Int32, y = x3 + 1 := ⟨_, rfl⟩
        have hw := hw z1 ez1
        refine lv_iinc (v := z1) (lv' := [(3, .int z1), (0, .ref h0), (1, .int x1), (2, .int x2)]) hx hb px_d111_48 hl (k := 3) rfl (by rw [ez1]; rfl) (by decide) rfl (fun ls hl => ?_)
        refine lv_goto (tgt := 2) hx hb px_d111_51 (by decide) ?_
        exact ih2 x1 x2 z1 iv g_elements g_ranks g_rankOf g_order g_sizes g_sheet H locs ls hP hD hS (lv_sub hl [1, 2, 3, 0] rfl) hw
      intro x1 x2 x3 iv g_elements g_ranks g_rankOf g_order g_sizes g_sheet H locs ls hP hD hS hl hw
      unfold w111_L2 at hw
      refine lv_iload_n hx hb px_d111_2 rfl (lv_at hl 3 rfl) ?_
      refine lv_sipush (v := 4096) hx hb px_d111_3 (by decide) ?_
      refine lv_icmp_ge (tgt := 54) hx hb px_d111_6 (by decide) (fun c6 => ?_) (fun c6 => ?_)
      · have hw := hw.1 c6
        rw [← hQ]
        exact W.vret hx hb hr (fun t ht hW => ⟨⟨(iv, g_elements, g_ranks, g_rankOf, g_order, g_sizes, g_sheet), rfl, hw, by rw [ht]; exact hP, va_K.moved hW.alike hK, hD⟩, hS.F ht⟩) hS.2.2 px_d111_54
      · have hw := hw.2 c6
        refine lv_aload_n hx hb px_d111_9 rfl (lv_at hl 0 rfl) ?_
        refine va_get (D := (dC, dI)) (ci := 8) (v := .ref (rf 27)) (C := "MatroidDeskModel") (T := px_T8) (N := 53) hx hb htw px_in8 hown hK hP 0 rfl rfl 27 (by decide) (htw _ px_w512) (fun _ h9 => h9) rfl px_d111_10 ?_
        refine lv_iload_n hx hb px_d111_13 rfl (lv_at hl 3 rfl) ?_
        obtain ⟨hi14, hw⟩ := hw
        refine va_iald hx hb hK hP 4 3 rfl rfl hi14 px_d111_14 ?_
        refine lv_aload_n hx hb px_d111_15 rfl (lv_at hl 0 rfl) ?_
        refine lv_iload_n hx hb px_d111_16 rfl (lv_at hl 1 rfl) ?_
        have hPc := hP.sub (ws' := [(h0, .inr (8, px_mf rf iv)), (rf 19, .inl (c_elements, 26, .inl g_elements))]) [0, 1] rfl
        have hDc := hD.sub (ws' := [(h0, .inr (8, px_mf rf iv)), (rf 19, .inl (c_elements, 26, .inl g_elements))]) [0, 1] (by decide) rfl
        have hKc := hK.sub (tys' := [(c_elements, .int)]) [0] rfl
        have hFc := va_free (wc := [(h0, .inr (8, px_mf rf iv)), (rf 19, .inl (c_elements, 26, .inl g_elements))]) hD hS hA [0, 1] rfl
        refine va_calli (va_runV (As := [.int x1]) (rest := [.int (g_order (Int32.toNatClampNeg x3))]) ⟨hx, hb, hml, hown, htw⟩ (w71_met l dC dI H.size h0 rf c_elements x1 iv g_elements _ hw) (cwV 1 htw (px_gv px_w565 px_w556 px_w557 px_w94 px_g71) rfl rfl rfl (by decide +kernel) ⟨Nat.le_of_ble_eq_true rfl, Nat.le_of_ble_eq_true rfl⟩) ⟨fun a U g mk q => by obtain ⟨q0, q1, qP, qK, qD, qN⟩ := q; exact ⟨q0, q1, qP, va_K.moved (u := U) (U := U.calling g mk a) (Vm.Alike.refl U.vm) qK, qD, qN.same rfl⟩, va_recv hK hP (ci := 8) (q0 := 0) rfl rfl, fun U hU hW => ⟨rfl, by rw [hU], by rw [hU]; exact hPc, va_K.moved hW.alike hKc, hDc.weaken (fun _ _ _ _ => trivial), hN.warm hW⟩⟩ rfl rfl hl.1 rfl (lv_room (Nat.le_of_ble_eq_true rfl)) px_d111_17 ⟨(Nat.le_of_ble_eq_true rfl), (Nat.le_of_ble_eq_true rfl)⟩) hS (fun q _ h => hFc q h) hFc (fun r17 u t H1 locs ht hvm hw hB hz1 hk1 hS => ?_)
        obtain ⟨v2, v3⟩ := u
        obtain ⟨hP1, hK1, hD1⟩ := hB
        rw [ht] at hP1
        have hK1 := va_K.moved hvm.symm hK1
        obtain ⟨hP, hD⟩ := va_join (wr := [(rf 21, .inl (c_ranks, 26, .inl g_ranks)), (rf 25, .inl (c_rankOf, 106496, .inl g_rankOf)), (rf 27, .inl (c_order, 4096, .inl g_order)), (rf 28, .inl (c_sizes, 4096, .inl g_sizes)), (rf 46, .inl (c_sheet, 65536, .inl g_sheet))]) (w1 := [(h0, .inr (8, px_mf rf v2)), (rf 19, .inl (c_elements, 26, .inl v3))]) hP hD [0, 1] [2, 3, 4, 5, 6] rfl rfl (by decide) (by decide) hk1 hFc hP1 hD1
        generalize H1 = H at hP hS ⊢
        have hP : va_P (dC, dI) vwCl [(rf 21, .inl (c_ranks, 26, .inl g_ranks)), (rf 25, .inl (c_rankOf, 106496, .inl g_rankOf)), (rf 27, .inl (c_order, 4096, .inl g_order)), (rf 28, .inl (c_sizes, 4096, .inl g_sizes)), (rf 46, .inl (c_sheet, 65536, .inl g_sheet)), (h0, .inr (8, px_mf rf v2)), (rf 19, .inl (c_elements, 26, .inl v3))] H := hP
        have hD : va_D A [(rf 21, .inl (c_ranks, 26, .inl g_ranks)), (rf 25, .inl (c_rankOf, 106496, .inl g_rankOf)), (rf 27, .inl (c_order, 4096, .inl g_order)), (rf 28, .inl (c_sizes, 4096, .inl g_sizes)), (rf 46, .inl (c_sheet, 65536, .inl g_sheet)), (h0, .inr (8, px_mf rf v2)), (rf 19, .inl (c_elements, 26, .inl v3))] := hD
        have hP := hP.sub (ws' := [(h0, .inr (8, px_mf rf v2)), (rf 19, .inl (c_elements, 26, .inl v3)), (rf 21, .inl (c_ranks, 26, .inl g_ranks)), (rf 25, .inl (c_rankOf, 106496, .inl g_rankOf)), (rf 27, .inl (c_order, 4096, .inl g_order)), (rf 28, .inl (c_sizes, 4096, .inl g_sizes)), (rf 46, .inl (c_sheet, 65536, .inl g_sheet))]) [5, 6, 0, 1, 2, 3, 4] rfl
        have hD := hD.sub (ws' := [(h0, .inr (8, px_mf rf v2)), (rf 19, .inl (c_elements, 26, .inl v3)), (rf 21, .inl (c_ranks, 26, .inl g_ranks)), (rf 25, .inl (c_rankOf, 106496, .inl g_rankOf)), (rf 27, .inl (c_order, 4096, .inl g_order)), (rf 28, .inl (c_sizes, 4096, .inl g_sizes)), (rf 46, .inl (c_sheet, 65536, .inl g_sheet))]) [5, 6, 0, 1, 2, 3, 4] (by decide) rfl
        refine lv_icmp_gt (tgt := 48) hx hb px_d111_20 (by decide) (fun c20 => ?_) (fun c20 => ?_)
        · have hw := hw.1 c20
          exact S48 x1 x2 x3 v2 v3 g_ranks g_rankOf g_order g_sizes g_sheet H locs ls hP hD hS (lv_sub hl [0, 1, 2, 3] rfl) hw
        · have hw := hw.2 c20
          refine lv_aload_n hx hb px_d111_23 rfl (lv_at hl 0 rfl) ?_
          refine lv_iload_n hx hb px_d111_24 rfl (lv_at hl 1 rfl) ?_
          refine lv_iload_n hx hb px_d111_25 rfl (lv_at hl 2 rfl) ?_
          refine lv_aload_n hx hb px_d111_26 rfl (lv_at hl 0 rfl) ?_
          refine va_get (D := (dC, dI)) (ci := 8) (v := .ref (rf 27)) (C := "MatroidDeskModel") (T := px_T8) (N := 53) hx hb htw px_in8 hown hK hP 0 rfl rfl 27 (by decide) (htw _ px_w512) (fun _ h9 => h9) rfl px_d111_27 ?_
          refine lv_iload_n hx hb px_d111_30 rfl (lv_at hl 3 rfl) ?_
          obtain ⟨hi31, hw⟩ := hw
          refine va_iald hx hb hK hP 4 3 rfl rfl hi31 px_d111_31 ?_
          have hPc := hP.sub (ws' := [(h0, .inr (8, px_mf rf v2)), (rf 19, .inl (c_elements, 26, .inl v3)), (rf 21, .inl (c_ranks, 26, .inl g_ranks)), (rf 25, .inl (c_rankOf, 106496, .inl g_rankOf)), (rf 28, .inl (c_sizes, 4096, .inl g_sizes))]) [0, 1, 2, 3, 5] rfl
          have hDc := hD.sub (ws' := [(h0, .inr (8, px_mf rf v2)), (rf 19, .inl (c_elements, 26, .inl v3)), (rf 21, .inl (c_ranks, 26, .inl g_ranks)), (rf 25, .inl (c_rankOf, 106496, .inl g_rankOf)), (rf 28, .inl (c_sizes, 4096, .inl g_sizes))]) [0, 1, 2, 3, 5] (by decide) rfl
          have hKc := hK.sub (tys' := [(c_elements, .int), (c_ranks, .int), (c_rankOf, .byte), (c_sizes, .int)]) [0, 1, 2, 4] rfl
          have hFc := va_free (wc := [(h0, .inr (8, px_mf rf v2)), (rf 19, .inl (c_elements, 26, .inl v3)), (rf 21, .inl (c_ranks, 26, .inl g_ranks)), (rf 25, .inl (c_rankOf, 106496, .inl g_rankOf)), (rf 28, .inl (c_sizes, 4096, .inl g_sizes))]) hD hS hA [0, 1, 2, 3, 5] rfl
          refine va_calli (va_runV (As := [.int x1, .int x2, .int (g_order (Int32.toNatClampNeg x3))]) (rest := []) ⟨hx, hb, hml, hown, htw⟩ (w76_met l dC dI H.size h0 rf c_elements c_ranks c_rankOf c_sizes x1 x2 (g_order (Int32.toNatClampNeg x3)) v2 v3 g_ranks g_rankOf g_sizes _ hw) (cwV 3 htw (px_gv px_w582 px_w574 px_w575 px_w94 px_g76) rfl rfl rfl (by decide +kernel) ⟨Nat.le_of_ble_eq_true rfl, Nat.le_of_ble_eq_true rfl⟩) ⟨fun a U g mk q => by obtain ⟨q0, q1, qP, qK, qD, qN⟩ := q; exact ⟨q0, q1, qP, va_K.moved (u := U) (U := U.calling g mk a) (Vm.Alike.refl U.vm) qK, qD, qN.same rfl⟩, va_recv hK hP (ci := 8) (q0 := 0) rfl rfl, fun U hU hW => ⟨rfl, by rw [hU], by rw [hU]; exact hPc, va_K.moved hW.alike hKc, hDc.weaken (fun _ _ _ _ => trivial), hN.warm hW⟩⟩ rfl rfl hl.1 rfl (lv_room (Nat.le_of_ble_eq_true rfl)) px_d111_32 ⟨(Nat.le_of_ble_eq_true rfl), (Nat.le_of_ble_eq_true rfl)⟩) hS (fun q _ h => hFc q h) hFc (fun r32 u t H1 locs ht hvm hw hB hz1 hk1 hS => ?_)
          obtain ⟨v4, v5, v6, v7, v8⟩ := u
          obtain ⟨hP1, hK1, hD1⟩ := hB
          rw [ht] at hP1
          have hK1 := va_K.moved hvm.symm hK1
          obtain ⟨hP, hD⟩ := va_join (wr := [(rf 27, .inl (c_order, 4096, .inl g_order)), (rf 46, .inl (c_sheet, 65536, .inl g_sheet))]) (w1 := [(h0, .inr (8, px_mf rf v4)), (rf 19, .inl (c_elements, 26, .inl v5)), (rf 21, .inl (c_ranks, 26, .inl v6)), (rf 25, .inl (c_rankOf, 106496, .inl v7)), (rf 28, .inl (c_sizes, 4096, .inl v8))]) hP hD [0, 1, 2, 3, 5] [4, 6] rfl rfl (by decide) (by decide) hk1 hFc hP1 hD1
          generalize H1 = H at hP hS ⊢
          have hP : va_P (dC, dI) vwCl [(rf 27, .inl (c_order, 4096, .inl g_order)), (rf 46, .inl (c_sheet, 65536, .inl g_sheet)), (h0, .inr (8, px_mf rf v4)), (rf 19, .inl (c_elements, 26, .inl v5)), (rf 21, .inl (c_ranks, 26, .inl v6)), (rf 25, .inl (c_rankOf, 106496, .inl v7)), (rf 28, .inl (c_sizes, 4096, .inl v8))] H := hP
          have hD : va_D A [(rf 27, .inl (c_order, 4096, .inl g_order)), (rf 46, .inl (c_sheet, 65536, .inl g_sheet)), (h0, .inr (8, px_mf rf v4)), (rf 19, .inl (c_elements, 26, .inl v5)), (rf 21, .inl (c_ranks, 26, .inl v6)), (rf 25, .inl (c_rankOf, 106496, .inl v7)), (rf 28, .inl (c_sizes, 4096, .inl v8))] := hD
          have hP := hP.sub (ws' := [(h0, .inr (8, px_mf rf v4)), (rf 19, .inl (c_elements, 26, .inl v5)), (rf 21, .inl (c_ranks, 26, .inl v6)), (rf 25, .inl (c_rankOf, 106496, .inl v7)), (rf 27, .inl (c_order, 4096, .inl g_order)), (rf 28, .inl (c_sizes, 4096, .inl v8)), (rf 46, .inl (c_sheet, 65536, .inl g_sheet))]) [2, 3, 4, 5, 0, 6, 1] rfl
          have hD := hD.sub (ws' := [(h0, .inr (8, px_mf rf v4)), (rf 19, .inl (c_elements, 26, .inl v5)), (rf 21, .inl (c_ranks, 26, .inl v6)), (rf 25, .inl (c_rankOf, 106496, .inl v7)), (rf 27, .inl (c_order, 4096, .inl g_order)), (rf 28, .inl (c_sizes, 4096, .inl v8)), (rf 46, .inl (c_sheet, 65536, .inl g_sheet))]) [2, 3, 4, 5, 0, 6, 1] (by decide) rfl
          refine lv_if_eq (tgt := 48) hx hb px_d111_35 (by decide) (fun c35 => ?_) (fun c35 => ?_)
          · have hw := hw.1 c35
            exact S48 x1 x2 x3 v4 v5 v6 v7 g_order v8 g_sheet H locs ls hP hD hS (lv_sub hl [0, 1, 2, 3] rfl) hw
          · have hw := hw.2 c35
            refine lv_aload_n hx hb px_d111_38 rfl (lv_at hl 0 rfl) ?_
            refine lv_aload_n hx hb px_d111_39 rfl (lv_at hl 0 rfl) ?_
            refine va_get (D := (dC, dI)) (ci := 8) (v := .ref (rf 27)) (C := "MatroidDeskModel") (T := px_T8) (N := 53) hx hb htw px_in8 hown hK hP 0 rfl rfl 27 (by decide) (htw _ px_w512) (fun _ h9 => h9) rfl px_d111_40 ?_
            refine lv_iload_n hx hb px_d111_43 rfl (lv_at hl 3 rfl) ?_
            obtain ⟨hi44, hw⟩ := hw
            refine va_iald hx hb hK hP 4 3 rfl rfl hi44 px_d111_44 ?_
            have hPc := hP.sub (ws' := [(h0, .inr (8, px_mf rf v4)), (rf 46, .inl (c_sheet, 65536, .inl g_sheet))]) [0, 6] rfl
            have hDc := hD.sub (ws' := [(h0, .inr (8, px_mf rf v4)), (rf 46, .inl (c_sheet, 65536, .inl g_sheet))]) [0, 6] (by decide) rfl
            have hKc := hK.sub (tys' := [(c_sheet, .byte)]) [5] rfl
            have hFc := va_free (wc := [(h0, .inr (8, px_mf rf v4)), (rf 46, .inl (c_sheet, 65536, .inl g_sheet))]) hD hS hA [0, 6] rfl
            refine va_callv (va_runV (As := [.int (g_order (Int32.toNatClampNeg x3))]) (rest := []) ⟨hx, hb, hml, hown, htw⟩ (w106_met l dC dI H.size h0 rf c_sheet (g_order (Int32.toNatClampNeg x3)) v4 g_sheet _ hw) (cwV 1 htw (px_gv px_w727 px_w705 px_w706 px_w94 px_g106) rfl rfl rfl (by decide +kernel) ⟨Nat.le_of_ble_eq_true rfl, Nat.le_of_ble_eq_true rfl⟩) ⟨fun a U g mk q => by obtain ⟨q0, q1, qP, qK, qD, qN⟩ := q; exact ⟨q0, q1, qP, va_K.moved (u := U) (U := U.calling g mk a) (Vm.Alike.refl U.vm) qK, qD, qN.same rfl⟩, va_recv hK hP (ci := 8) (q0 := 0) rfl rfl, fun U hU hW => ⟨rfl, by rw [hU], by rw [hU]; exact hPc, va_K.moved hW.alike hKc, hDc.weaken (fun _ _ _ _ => trivial), hN.warm hW⟩⟩ rfl rfl hl.1 rfl (lv_room (Nat.le_of_ble_eq_true rfl)) px_d111_45 ⟨(Nat.le_of_ble_eq_true rfl), (Nat.le_of_ble_eq_true rfl)⟩) hS (fun q _ h => hFc q h) hFc (fun u t H1 locs ht hvm hw hB hz1 hk1 hS => ?_)
            obtain ⟨v9, v10⟩ := u
            obtain ⟨hP1, hK1, hD1⟩ := hB
            rw [ht] at hP1
            have hK1 := va_K.moved hvm.symm hK1
            obtain ⟨hP, hD⟩ := va_join (wr := [(rf 19, .inl (c_elements, 26, .inl v5)), (rf 21, .inl (c_ranks, 26, .inl v6)), (rf 25, .inl (c_rankOf, 106496, .inl v7)), (rf 27, .inl (c_order, 4096, .inl g_order)), (rf 28, .inl (c_sizes, 4096, .inl v8))]) (w1 := [(h0, .inr (8, px_mf rf v9)), (rf 46, .inl (c_sheet, 65536, .inl v10))]) hP hD [0, 6] [1, 2, 3, 4, 5] rfl rfl (by decide) (by decide) hk1 hFc hP1 hD1
            generalize H1 = H at hP hS ⊢
            have hP : va_P (dC, dI) vwCl [(rf 19, .inl (c_elements, 26, .inl v5)), (rf 21, .inl (c_ranks, 26, .inl v6)), (rf 25, .inl (c_rankOf, 106496, .inl v7)), (rf 27, .inl (c_order, 4096, .inl g_order)), (rf 28, .inl (c_sizes, 4096, .inl v8)), (h0, .inr (8, px_mf rf v9)), (rf 46, .inl (c_sheet, 65536, .inl v10))] H := hP
            have hD : va_D A [(rf 19, .inl (c_elements, 26, .inl v5)), (rf 21, .inl (c_ranks, 26, .inl v6)), (rf 25, .inl (c_rankOf, 106496, .inl v7)), (rf 27, .inl (c_order, 4096, .inl g_order)), (rf 28, .inl (c_sizes, 4096, .inl v8)), (h0, .inr (8, px_mf rf v9)), (rf 46, .inl (c_sheet, 65536, .inl v10))] := hD
            have hP := hP.sub (ws' := [(h0, .inr (8, px_mf rf v9)), (rf 19, .inl (c_elements, 26, .inl v5)), (rf 21, .inl (c_ranks, 26, .inl v6)), (rf 25, .inl (c_rankOf, 106496, .inl v7)), (rf 27, .inl (c_order, 4096, .inl g_order)), (rf 28, .inl (c_sizes, 4096, .inl v8)), (rf 46, .inl (c_sheet, 65536, .inl v10))]) [5, 0, 1, 2, 3, 4, 6] rfl
            have hD := hD.sub (ws' := [(h0, .inr (8, px_mf rf v9)), (rf 19, .inl (c_elements, 26, .inl v5)), (rf 21, .inl (c_ranks, 26, .inl v6)), (rf 25, .inl (c_rankOf, 106496, .inl v7)), (rf 27, .inl (c_order, 4096, .inl g_order)), (rf 28, .inl (c_sizes, 4096, .inl v8)), (rf 46, .inl (c_sheet, 65536, .inl v10))]) [5, 0, 1, 2, 3, 4, 6] (by decide) rfl
            exact S48 x1 x2 x3 v9 v5 v6 v7 g_order v8 v10 H locs ls hP hD hS (lv_sub hl [0, 1, 2, 3] rfl) hw
  unfold w111_wp at hw
  have hS0 := hS
  obtain ⟨H, hH9⟩ : ∃ z, z = s.heap := ⟨_, rfl⟩
  have hP : va_P (dC, dI) vwCl [(h0, .inr (8, px_mf rf iv)), (rf 19, .inl (c_elements, 26, .inl g_elements)), (rf 21, .inl (c_ranks, 26, .inl g_ranks)), (rf 25, .inl (c_rankOf, 106496, .inl g_rankOf)), (rf 27, .inl (c_order, 4096, .inl g_order)), (rf 28, .inl (c_sizes, 4096, .inl g_sizes)), (rf 46, .inl (c_sheet, 65536, .inl g_sheet))] H := by rw [hH9]; exact hP
  obtain ⟨locs, hlo9⟩ : ∃ z : List Loc, z = [] := ⟨_, rfl⟩
  have hS : va_S A s.heap H locs := by rw [hH9, hlo9]; exact hS
  suffices hG : W p l e (headSpec px_s111 ({ frames := 4, cells := 0, slots := 0, locals := 93 })).room s m ([.ref h0, .int a1x, .int a2x]).toArray below meth c H locs 0 0 Q (F0 m 0 ls []) by rw [hH9, hlo9] at hG; exact hG
  refine lv_iconst (v := 0) hx hb px_d111_0 (by decide) ?_
  refine lv_istore_n (lv' := [(3, .int 0), (0, .ref h0), (1, .int a1x), (2, .int a2x)]) hx hb px_d111_1 rfl hl (by decide) rfl (fun ls hl => ?_)
  obtain ⟨k9, hw⟩ := hw
  exact S2 k9 a1x a2x 0 iv g_elements g_ranks g_rankOf g_order g_sizes g_sheet H locs ls hP hD hS (lv_sub hl [1, 2, 3, 0] rfl) hw

