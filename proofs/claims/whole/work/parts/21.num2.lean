def nsm_L32 (post : Int32 → Int32 → (Nat → Int32) → Prop) : Nat → Int64 → Int64 → Int32 → Int32 → (Nat → Int32) → Prop
  | 0 => fun _ _ _ _ _ => False
  | k + 1 => fun x1 x3 n0 m0 f0 => ((lg_cmp x3 0) ≤ 0 → post n0 m0 f0) ∧ (¬ (lg_cmp x3 0) ≤ 0 → ∀ z1 : Int32, z1 = (x3 - x3 / 65536 * 65536).toInt32 → vp_in n0 160 ∧ (∀ z2 : Int32, z2 = n0 + 1 → ∀ z3 : Int64, z3 = x3 / 65536 → (nsm_L32 post k) x1 z3 z2 m0 (upd f0 (Int32.toNatClampNeg n0) z1)))
def nsm_L31 (post : Int32 → Int32 → (Nat → Int32) → Prop) (x1 : Int64) (y0 : Int64) (n0 : Int32) (m0 : Int32) (f0 : Nat → Int32) : Prop := ∃ j32, nsm_L32 post j32 x1 y0 n0 m0 f0
def nsm_L16 (post : Int32 → Int32 → (Nat → Int32) → Prop) (x1 : Int64) (y0 : Int32) (n0 : Int32) (m0 : Int32) (f0 : Nat → Int32) : Prop := (narrow .boolean (.int y0) = .int y0 ∧ fits .boolean (.int y0) = true) ∧ ((0 ≤ (lg_cmp x1 0) → nsm_L31 post x1 x1 n0 y0 f0) ∧ (¬ 0 ≤ (lg_cmp x1 0) → nsm_L31 post x1 (-x1) n0 y0 f0))
def nsm_wp (post : Int32 → Int32 → (Nat → Int32) → Prop) (v : Int64) (n0 : Int32) (m0 : Int32) (f0 : Nat → Int32) : Prop := nz_wp (fun v4 v5 v6 => (0 ≤ (lg_cmp v 0) → nsm_L16 post v 0 v4 v5 v6) ∧ (¬ 0 ≤ (lg_cmp v 0) → nsm_L16 post v 1 v4 v5 v6)) n0 m0 f0
set_option maxHeartbeats 8000000 in
set_option maxRecDepth 100000 in
theorem nsm_met (l : Launch) (dC : Nat → ClassId) (dI : Nat → Nat → Nat) (sz : Nat) (h0 : Nat) (q0 : Nat) (c0 : ClassId) (v : Int64) (n0 : Int32) (m0 : Int32) (f0 : Nat → Int32) (post : Int32 → Int32 → (Nat → Int32) → Prop) (hw : nsm_wp post v n0 m0 f0) : Met l px_y11 px_s11 ({ frames := 1, cells := 0, slots := 0, locals := 20 }) (va_Pc [.ref h0, .long v] (fun U => U.heap.size = sz ∧ va_P (dC, dI) vwCl [(h0, .inr (9, [.ref q0, .int n0, .int m0])), (q0, .inl (c0, 160, .inl f0))] U.heap ∧ va_K (dC, dI) vwCl [(c0, .int)] U ∧ va_D (fun _ => True) [(h0, .inr (9, [.ref q0, .int n0, .int m0])), (q0, .inl (c0, 160, .inl f0))] ∧ px_N U)) (va_Qv (fun (u : Int32 × Int32 × (Nat → Int32)) => post u.1 u.2.1 u.2.2) (fun (u : Int32 × Int32 × (Nat → Int32)) (t : State) => va_P (dC, dI) vwCl [(h0, .inr (9, [.ref q0, .int u.1, .int u.2.1])), (q0, .inl (c0, 160, .inl u.2.2))] t.heap ∧ va_K (dC, dI) vwCl [(c0, .int)] t ∧ va_D (va_A [(h0, .inr (9, [.ref q0, .int n0, .int m0])), (q0, .inl (c0, 160, .inl f0))] sz) [(h0, .inr (9, [.ref q0, .int u.1, .int u.2.1])), (q0, .inl (c0, 160, .inl u.2.2))]) (va_A [(h0, .inr (9, [.ref q0, .int n0, .int m0])), (q0, .inl (c0, 160, .inl f0))] sz)) 0 0 (va_A [(h0, .inr (9, [.ref q0, .int n0, .int m0])), (q0, .inl (c0, 160, .inl f0))] sz) := by
  refine Met.ofW (cc := prog_16_method_4_code) (maxL := 5) (ret := none) (by decide) rfl ?_
  intro p e s m args below meth c s₁ B hml hv
  obtain ⟨rfl, hsz, hP, hK, hD0, hN⟩ := hv
  have hx := B.exec
  have hb := B.bytes
  have hr := B.returns
  have htw : ∀ w ∈ px_all, w.before _ s = true := fun w h => atoms_spec (ws := px_s11) B.pre w (List.mem_cons_of_mem _ h)
  have hown : s.vm.findClass "MatroidDeskModel$Num" = some m.cls := findClass_of_methodNamed B.named
  have hlocks := B.notSynchronized
  subst hsz
  have hD := hD0.self (sz := s.heap.size)
  generalize hAe : va_A [(h0, .inr (9, [.ref q0, .int n0, .int m0])), (q0, .inl (c0, 160, .inl f0))] s.heap.size = A at hD ⊢
  have hA : ∀ q : Nat, s.heap.size ≤ q → A q := fun q h => by rw [← hAe]; exact Or.inr h
  have hS : va_S A s.heap s.heap [] := va_S.rf
  have hP : va_P (dC, dI) vwCl [(h0, .inr (9, [.ref q0, .int n0, .int m0])), (q0, .inl (c0, 160, .inl f0))] s.heap := hP
  have hl := lv_entry ([.ref h0, .long v]) (n := 5) (Nat.le_of_ble_eq_true rfl)
  rw [lg_entry_eq]
  generalize (lg_sl ([.ref h0, .long v]) ++ List.replicate (5 - (lg_sl ([.ref h0, .long v])).length) Slot.unset).toArray = ls at hl ⊢
  have hl : lv_has ls 5 [(0, .ref h0), (1, .long v)] := hl
  generalize hQ : MQ _ _ _ _ _ _ _ = Q
  have S32 : ∀ (k32 : Nat) (x1 : Int64) (x3 : Int64) (n0 : Int32) (m0 : Int32) (f0 : Nat → Int32) (H : Heap) (locs : List Loc) (ls : Array Slot), va_P (dC, dI) vwCl [(h0, .inr (9, [.ref q0, .int n0, .int m0])), (q0, .inl (c0, 160, .inl f0))] H → va_D A [(h0, .inr (9, [.ref q0, .int n0, .int m0])), (q0, .inl (c0, 160, .inl f0))] → va_S A s.heap H locs → lv_has ls 5 [(0, .ref h0), (1, .long x1), (3, .long x3)] → nsm_L32 post k32 x1 x3 n0 m0 f0 → W p l e (headSpec px_s11 ({ frames := 1, cells := 0, slots := 0, locals := 20 })).room s m ([.ref h0, .long v]).toArray below meth c H locs 0 0 Q (F0 m 32 ls []) := by
    intro k32
    induction k32 with
    | zero => intro x1 x3 n0 m0 f0 H locs ls hP hD hS hl hw; exact False.elim hw
    | succ k32 ih32 =>
      intro x1 x3 n0 m0 f0 H locs ls hP hD hS hl hw
      unfold nsm_L32 at hw
      refine lv_lload_n hx hb px_d11_32 rfl (lv_at hl 2 rfl) ?_
      refine lv_lconst (v := 0) hx hb px_d11_33 (by decide) ?_
      refine W.lcmp hx hb px_d11_34 ?_
      refine lv_if_le (tgt := 72) hx hb px_d11_35 (by decide) (fun c35 => ?_) (fun c35 => ?_)
      · have hw := hw.1 c35
        rw [← hQ]
        exact W.vret hx hb hr (fun t ht hW => ⟨⟨(n0, m0, f0), rfl, hw, by rw [ht]; exact hP, va_K.moved hW.alike hK, hD⟩, hS.F ht⟩) hS.2.2 px_d11_72
      · have hw := hw.2 c35
        refine lv_aload_n hx hb px_d11_38 rfl (lv_at hl 0 rfl) ?_
        refine va_get (D := (dC, dI)) (ci := 9) (v := .ref q0) (C := "MatroidDeskModel$Num") (T := px_T9) (N := 3) hx hb htw px_in9 hown hK hP 0 rfl rfl 0 (by decide) (htw _ px_w267) (fun _ h9 => h9) rfl px_d11_39 ?_
        refine lv_aload_n hx hb px_d11_42 rfl (lv_at hl 0 rfl) ?_
        refine va_get (D := (dC, dI)) (ci := 9) (v := .int n0) (C := "MatroidDeskModel$Num") (T := px_T9) (N := 3) hx hb htw px_in9 hown hK hP 0 rfl rfl 1 (by decide) (htw _ px_w271) (fun _ h9 => h9) rfl px_d11_43 ?_
        refine lv_lload_n hx hb px_d11_46 rfl (lv_at hl 2 rfl) ?_
        refine lv_ldc2 hx hb (own := "MatroidDeskModel$Num") (index := 24) (v := 65536) hown (htw _ px_w280) px_d11_47 ?_
        refine lv_lrem hx hb px_d11_50 (by decide +kernel) ?_
        refine lv_l2i (v := (x3 - x3 / 65536 * 65536).toInt32) hx hb px_d11_51 rfl ?_
        refine lv_topi (fun z1 ez1 => ?_)
        have hw := hw z1 ez1
        obtain ⟨hi52, hw⟩ := hw
        refine va_iast hx hb hK hP hD hS 1 0 rfl rfl hi52 px_d11_52 (fun H locs hP hD hS => ?_)
        have hP : va_P (dC, dI) vwCl [(h0, .inr (9, [.ref q0, .int n0, .int m0])), (q0, .inl (c0, 160, .inl (upd f0 (Int32.toNatClampNeg n0) z1)))] H := hP
        have hD : va_D A [(h0, .inr (9, [.ref q0, .int n0, .int m0])), (q0, .inl (c0, 160, .inl (upd f0 (Int32.toNatClampNeg n0) z1)))] := hD
        refine lv_aload_n hx hb px_d11_53 rfl (lv_at hl 0 rfl) ?_
        refine lv_dup hx hb px_d11_54 rfl ?_
        refine va_get (D := (dC, dI)) (ci := 9) (v := .int n0) (C := "MatroidDeskModel$Num") (T := px_T9) (N := 3) hx hb htw px_in9 hown hK hP 0 rfl rfl 1 (by decide) (htw _ px_w271) (fun _ h9 => h9) rfl px_d11_55 ?_
        refine lv_iconst (v := 1) hx hb px_d11_58 (by decide) ?_
        refine lv_iadd hx hb px_d11_59 ?_
        refine lv_topi (fun z2 ez2 => ?_)
        have hw := hw z2 ez2
        refine va_put (D := (dC, dI)) (ci := 9) (v := .int z2) (ty := .int) (C := "MatroidDeskModel$Num") (T := px_T9) (N := 3) hx hb htw px_in9 px_ty9 px_tyok9 px_nm9 hown hK hP hD hS 0 rfl rfl 1 (by decide) (htw _ px_w271) (fun _ h9 => h9) rfl (by decide +kernel) rfl rfl (Nat.le_of_ble_eq_true rfl) px_d11_60 (fun H locs hP hD hS => ?_)
        have hP : va_P (dC, dI) vwCl [(h0, .inr (9, [.ref q0, .int z2, .int m0])), (q0, .inl (c0, 160, .inl (upd f0 (Int32.toNatClampNeg n0) z1)))] H := hP
        have hD : va_D A [(h0, .inr (9, [.ref q0, .int z2, .int m0])), (q0, .inl (c0, 160, .inl (upd f0 (Int32.toNatClampNeg n0) z1)))] := hD
        refine lv_lload_n hx hb px_d11_63 rfl (lv_at hl 2 rfl) ?_
        refine lv_ldc2 hx hb (own := "MatroidDeskModel$Num") (index := 24) (v := 65536) hown (htw _ px_w280) px_d11_64 ?_
        refine lv_ldiv hx hb px_d11_67 (by decide +kernel) ?_
        refine lv_topl (fun z3 ez3 => ?_)
        have hw := hw z3 ez3
        refine lv_lstore_n (lv' := [(3, .long z3), (0, .ref h0), (1, .long x1)]) hx hb px_d11_68 rfl hl (by decide) rfl (fun ls hl => ?_)
        refine lv_goto (tgt := 32) hx hb px_d11_69 (by decide) ?_
        exact ih32 x1 z3 z2 m0 (upd f0 (Int32.toNatClampNeg n0) z1) H locs ls hP hD hS (lv_sub hl [1, 2, 0] rfl) hw
  have S31 : ∀ (x1 : Int64) (y0 : Int64) (n0 : Int32) (m0 : Int32) (f0 : Nat → Int32) (H : Heap) (locs : List Loc) (ls : Array Slot), va_P (dC, dI) vwCl [(h0, .inr (9, [.ref q0, .int n0, .int m0])), (q0, .inl (c0, 160, .inl f0))] H → va_D A [(h0, .inr (9, [.ref q0, .int n0, .int m0])), (q0, .inl (c0, 160, .inl f0))] → va_S A s.heap H locs → lv_has ls 5 [(0, .ref h0), (1, .long x1)] → nsm_L31 post x1 y0 n0 m0 f0 → W p l e (headSpec px_s11 ({ frames := 1, cells := 0, slots := 0, locals := 20 })).room s m ([.ref h0, .long v]).toArray below meth c H locs 0 0 Q (F0 m 31 ls [.long y0]) := by
    intro x1 y0 n0 m0 f0 H locs ls hP hD hS hl hw
    unfold nsm_L31 at hw
    refine lv_lstore_n (lv' := [(3, .long y0), (0, .ref h0), (1, .long x1)]) hx hb px_d11_31 rfl hl (by decide) rfl (fun ls hl => ?_)
    obtain ⟨k9, hw⟩ := hw
    exact S32 k9 x1 y0 n0 m0 f0 H locs ls hP hD hS (lv_sub hl [1, 2, 0] rfl) hw
  have S16 : ∀ (x1 : Int64) (y0 : Int32) (n0 : Int32) (m0 : Int32) (f0 : Nat → Int32) (H : Heap) (locs : List Loc) (ls : Array Slot), va_P (dC, dI) vwCl [(h0, .inr (9, [.ref q0, .int n0, .int m0])), (q0, .inl (c0, 160, .inl f0))] H → va_D A [(h0, .inr (9, [.ref q0, .int n0, .int m0])), (q0, .inl (c0, 160, .inl f0))] → va_S A s.heap H locs → lv_has ls 5 [(0, .ref h0), (1, .long x1)] → nsm_L16 post x1 y0 n0 m0 f0 → W p l e (headSpec px_s11 ({ frames := 1, cells := 0, slots := 0, locals := 20 })).room s m ([.ref h0, .long v]).toArray below meth c H locs 0 0 Q (F0 m 16 ls [.int y0, .ref h0]) := by
    intro x1 y0 n0 m0 f0 H locs ls hP hD hS hl hw
    unfold nsm_L16 at hw
    obtain ⟨hz16, hw⟩ := hw
    refine va_put (D := (dC, dI)) (ci := 9) (v := .int y0) (ty := .boolean) (C := "MatroidDeskModel$Num") (T := px_T9) (N := 3) hx hb htw px_in9 px_ty9 px_tyok9 px_nm9 hown hK hP hD hS 0 rfl rfl 2 (by decide) (htw _ px_w272) (fun _ h9 => h9) rfl (by decide +kernel) (hz16).1 (hz16).2 (Nat.le_of_ble_eq_true rfl) px_d11_16 (fun H locs hP hD hS => ?_)
    have hP : va_P (dC, dI) vwCl [(h0, .inr (9, [.ref q0, .int n0, .int y0])), (q0, .inl (c0, 160, .inl f0))] H := hP
    have hD : va_D A [(h0, .inr (9, [.ref q0, .int n0, .int y0])), (q0, .inl (c0, 160, .inl f0))] := hD
    refine lv_lload_n hx hb px_d11_19 rfl (lv_at hl 1 rfl) ?_
    refine lv_lconst (v := 0) hx hb px_d11_20 (by decide) ?_
    refine W.lcmp hx hb px_d11_21 ?_
    refine lv_if_ge (tgt := 30) hx hb px_d11_22 (by decide) (fun c22 => ?_) (fun c22 => ?_)
    · have hw := hw.1 c22
      refine lv_lload_n hx hb px_d11_30 rfl (lv_at hl 1 rfl) ?_
      exact S31 x1 x1 n0 y0 f0 H locs ls hP hD hS (lv_sub hl [0, 1] rfl) hw
    · have hw := hw.2 c22
      refine lv_lload_n hx hb px_d11_25 rfl (lv_at hl 1 rfl) ?_
      refine lv_lneg hx hb px_d11_26 ?_
      refine lv_goto (tgt := 31) hx hb px_d11_27 (by decide) ?_
      exact S31 x1 (-x1) n0 y0 f0 H locs ls hP hD hS (lv_sub hl [0, 1] rfl) hw
  unfold nsm_wp at hw
  have hS0 := hS
  obtain ⟨H, hH9⟩ : ∃ z, z = s.heap := ⟨_, rfl⟩
  have hP : va_P (dC, dI) vwCl [(h0, .inr (9, [.ref q0, .int n0, .int m0])), (q0, .inl (c0, 160, .inl f0))] H := by rw [hH9]; exact hP
  obtain ⟨locs, hlo9⟩ : ∃ z : List Loc, z = [] := ⟨_, rfl⟩
  have hS : va_S A s.heap H locs := by rw [hH9, hlo9]; exact hS
  suffices hG : W p l e (headSpec px_s11 ({ frames := 1, cells := 0, slots := 0, locals := 20 })).room s m ([.ref h0, .long v]).toArray below meth c H locs 0 0 Q (F0 m 0 ls []) by rw [hH9, hlo9] at hG; exact hG
  refine lv_aload_n hx hb px_d11_0 rfl (lv_at hl 0 rfl) ?_
  have hPc := hP.sub (ws' := [(h0, .inr (9, [.ref q0, .int n0, .int m0])), (q0, .inl (c0, 160, .inl f0))]) [0, 1] rfl
  have hDc := hD.sub (ws' := [(h0, .inr (9, [.ref q0, .int n0, .int m0])), (q0, .inl (c0, 160, .inl f0))]) [0, 1] (by decide) rfl
  have hKc := hK.sub (tys' := [(c0, .int)]) [0] rfl
  have hFc := va_free (wc := [(h0, .inr (9, [.ref q0, .int n0, .int m0])), (q0, .inl (c0, 160, .inl f0))]) hD hS hA [0, 1] rfl
  refine va_callv (va_runV (As := []) (rest := []) ⟨hx, hb, hml, hown, htw⟩ (nz_met l dC dI H.size h0 q0 c0 n0 m0 f0 _ hw) (cwV 0 htw (px_gv px_w279 px_w269 px_w270 px_w149 px_g9) rfl rfl rfl (by decide +kernel) ⟨Nat.le_of_ble_eq_true rfl, Nat.le_of_ble_eq_true rfl⟩) ⟨fun a U g mk q => by obtain ⟨q0, q1, qP, qK, qD, qN⟩ := q; exact ⟨q0, q1, qP, va_K.moved (u := U) (U := U.calling g mk a) (Vm.Alike.refl U.vm) qK, qD, qN.same rfl⟩, va_recv hK hP (ci := 9) (q0 := 0) rfl rfl, fun U hU hW => ⟨rfl, by rw [hU], by rw [hU]; exact hPc, va_K.moved hW.alike hKc, hDc.weaken (fun _ _ _ _ => trivial), hN.warm hW⟩⟩ rfl rfl hl.1 rfl (lv_room (Nat.le_of_ble_eq_true rfl)) px_d11_1 ⟨(Nat.le_of_ble_eq_true rfl), (Nat.le_of_ble_eq_true rfl)⟩) hS (fun q _ h => hFc q h) hFc (fun u t H1 locs ht hvm hw hB hz1 hk1 hS => ?_)
  obtain ⟨v4, v5, v6⟩ := u
  obtain ⟨hP1, hK1, hD1⟩ := hB
  rw [ht] at hP1
  have hK1 := va_K.moved hvm.symm hK1
  obtain ⟨hP, hD⟩ := va_join (wr := []) (w1 := [(h0, .inr (9, [.ref q0, .int v4, .int v5])), (q0, .inl (c0, 160, .inl v6))]) hP hD [0, 1] [] rfl rfl (by decide) (by decide) hk1 hFc hP1 hD1
  generalize H1 = H at hP hS ⊢
  have hP : va_P (dC, dI) vwCl [(h0, .inr (9, [.ref q0, .int v4, .int v5])), (q0, .inl (c0, 160, .inl v6))] H := hP
  have hD : va_D A [(h0, .inr (9, [.ref q0, .int v4, .int v5])), (q0, .inl (c0, 160, .inl v6))] := hD
  refine lv_aload_n hx hb px_d11_4 rfl (lv_at hl 0 rfl) ?_
  refine lv_lload_n hx hb px_d11_5 rfl (lv_at hl 1 rfl) ?_
  refine lv_lconst (v := 0) hx hb px_d11_6 (by decide) ?_
  refine W.lcmp hx hb px_d11_7 ?_
  refine lv_if_ge (tgt := 15) hx hb px_d11_8 (by decide) (fun c8 => ?_) (fun c8 => ?_)
  · have hw := hw.1 c8
    refine lv_iconst (v := 0) hx hb px_d11_15 (by decide) ?_
    exact S16 v 0 v4 v5 v6 H locs ls hP hD hS (lv_sub hl [0, 1] rfl) hw
  · have hw := hw.2 c8
    refine lv_iconst (v := 1) hx hb px_d11_11 (by decide) ?_
    refine lv_goto (tgt := 16) hx hb px_d11_12 (by decide) ?_
    exact S16 v 1 v4 v5 v6 H locs ls hP hD hS (lv_sub hl [0, 1] rfl) hw

def npr_L160 (post : Int32 → Int32 → (Nat → Int32) → Int32 → Int32 → (Nat → Int32) → Int32 → Int32 → (Nat → Int32) → Prop) (x3 : Int32) (y0 : Int32) (n0 : Int32) (m0 : Int32) (f0 : Nat → Int32) (n1 : Int32) (m1 : Int32) (f1 : Nat → Int32) (n2 : Int32) (m2 : Int32) (f2 : Nat → Int32) : Prop := (narrow .boolean (.int y0) = .int y0 ∧ fits .boolean (.int y0) = true) ∧ (nt_wp (fun v1 v2 v3 => post v1 v2 v3 n1 m1 f1 n2 m2 f2) n0 y0 f0)
def npr_L52 (K38 : Int32 → Int32 → Int32 → (Nat → Int32) → Int32 → Int32 → (Nat → Int32) → Int32 → Int32 → (Nat → Int32) → Prop) (post : Int32 → Int32 → (Nat → Int32) → Int32 → Int32 → (Nat → Int32) → Int32 → Int32 → (Nat → Int32) → Prop) : Nat → Int32 → Int64 → Int32 → Int32 → Int32 → (Nat → Int32) → Int32 → Int32 → (Nat → Int32) → Int32 → Int32 → (Nat → Int32) → Prop
  | 0 => fun _ _ _ _ _ _ _ _ _ _ _ _ => False
  | k + 1 => fun x3 x4 x6 n0 m0 f0 n1 m1 f1 n2 m2 f2 => (n2 ≤ x6 → ∀ z4 : Int32, z4 = x4.toInt32 → vp_in (x3 + n2) 160 ∧ (∀ z5 : Int32, z5 = x3 + 1 → K38 z5 n0 m0 (upd f0 (Int32.toNatClampNeg (x3 + n2)) z4) n1 m1 f1 n2 m2 f2)) ∧ (¬ n2 ≤ x6 → vp_in x3 160 ∧ (vp_in x6 160 ∧ (vp_in (x3 + x6) 160 ∧ (∀ z6 : Int64, z6 = x4 + ((((f1 (Int32.toNatClampNeg x3)).toInt64) * ((f2 (Int32.toNatClampNeg x6)).toInt64)) + ((f0 (Int32.toNatClampNeg (x3 + x6))).toInt64)) → ∀ z7 : Int32, z7 = (z6 - z6 / 65536 * 65536).toInt32 → vp_in (x3 + x6) 160 ∧ (∀ z8 : Int64, z8 = z6 / 65536 → ∀ z9 : Int32, z9 = x6 + 1 → (npr_L52 K38 post k) x3 z8 z9 n0 m0 (upd f0 (Int32.toNatClampNeg (x3 + x6)) z7) n1 m1 f1 n2 m2 f2)))))
def npr_L38 (post : Int32 → Int32 → (Nat → Int32) → Int32 → Int32 → (Nat → Int32) → Int32 → Int32 → (Nat → Int32) → Prop) : Nat → Int32 → Int32 → Int32 → (Nat → Int32) → Int32 → Int32 → (Nat → Int32) → Int32 → Int32 → (Nat → Int32) → Prop
  | 0 => fun _ _ _ _ _ _ _ _ _ _ => False
  | k + 1 => fun x3 n0 m0 f0 n1 m1 f1 n2 m2 f2 => (n1 ≤ x3 → (m1 = m2 → npr_L160 post x3 0 n0 m0 f0 n1 m1 f1 n2 m2 f2) ∧ (¬ m1 = m2 → npr_L160 post x3 1 n0 m0 f0 n1 m1 f1 n2 m2 f2)) ∧ (¬ n1 ≤ x3 → ∃ j52, npr_L52 (npr_L38 post k) post j52 x3 0 0 n0 m0 f0 n1 m1 f1 n2 m2 f2)
def npr_L15 (post : Int32 → Int32 → (Nat → Int32) → Int32 → Int32 → (Nat → Int32) → Int32 → Int32 → (Nat → Int32) → Prop) : Nat → Int32 → Int32 → Int32 → (Nat → Int32) → Int32 → Int32 → (Nat → Int32) → Int32 → Int32 → (Nat → Int32) → Prop
  | 0 => fun _ _ _ _ _ _ _ _ _ _ => False
  | k + 1 => fun x3 n0 m0 f0 n1 m1 f1 n2 m2 f2 => (n0 ≤ x3 → ∃ j38, npr_L38 post j38 0 n0 m0 f0 n1 m1 f1 n2 m2 f2) ∧ (¬ n0 ≤ x3 → vp_in x3 160 ∧ (∀ z10 : Int32, z10 = x3 + 1 → (npr_L15 post k) z10 n0 m0 (upd f0 (Int32.toNatClampNeg x3) 0) n1 m1 f1 n2 m2 f2))
def npr_wp (post : Int32 → Int32 → (Nat → Int32) → Int32 → Int32 → (Nat → Int32) → Int32 → Int32 → (Nat → Int32) → Prop) (n0 : Int32) (m0 : Int32) (f0 : Nat → Int32) (n1 : Int32) (m1 : Int32) (f1 : Nat → Int32) (n2 : Int32) (m2 : Int32) (f2 : Nat → Int32) : Prop := ∀ z11 : Int32, z11 = n1 + n2 → ∃ j15, npr_L15 post j15 0 z11 m0 f0 n1 m1 f1 n2 m2 f2
set_option maxHeartbeats 8000000 in
set_option maxRecDepth 100000 in
theorem npr_met (l : Launch) (dC : Nat → ClassId) (dI : Nat → Nat → Nat) (sz : Nat) (h0 : Nat) (q0 : Nat) (h1 : Nat) (q1 : Nat) (h2 : Nat) (q2 : Nat) (c0 : ClassId) (c1 : ClassId) (c2 : ClassId) (n0 : Int32) (m0 : Int32) (f0 : Nat → Int32) (n1 : Int32) (m1 : Int32) (f1 : Nat → Int32) (n2 : Int32) (m2 : Int32) (f2 : Nat → Int32) (post : Int32 → Int32 → (Nat → Int32) → Int32 → Int32 → (Nat → Int32) → Int32 → Int32 → (Nat → Int32) → Prop) (hw : npr_wp post n0 m0 f0 n1 m1 f1 n2 m2 f2) : Met l px_y18 px_s18 ({ frames := 1, cells := 0, slots := 0, locals := 20 }) (va_Pc [.ref h0, .ref h1, .ref h2] (fun U => U.heap.size = sz ∧ va_P (dC, dI) vwCl [(h0, .inr (9, [.ref q0, .int n0, .int m0])), (q0, .inl (c0, 160, .inl f0)), (h1, .inr (9, [.ref q1, .int n1, .int m1])), (q1, .inl (c1, 160, .inl f1)), (h2, .inr (9, [.ref q2, .int n2, .int m2])), (q2, .inl (c2, 160, .inl f2))] U.heap ∧ va_K (dC, dI) vwCl [(c0, .int), (c1, .int), (c2, .int)] U ∧ va_D (fun _ => True) [(h0, .inr (9, [.ref q0, .int n0, .int m0])), (q0, .inl (c0, 160, .inl f0)), (h1, .inr (9, [.ref q1, .int n1, .int m1])), (q1, .inl (c1, 160, .inl f1)), (h2, .inr (9, [.ref q2, .int n2, .int m2])), (q2, .inl (c2, 160, .inl f2))] ∧ px_N U)) (va_Qv (fun (u : Int32 × Int32 × (Nat → Int32) × Int32 × Int32 × (Nat → Int32) × Int32 × Int32 × (Nat → Int32)) => post u.1 u.2.1 u.2.2.1 u.2.2.2.1 u.2.2.2.2.1 u.2.2.2.2.2.1 u.2.2.2.2.2.2.1 u.2.2.2.2.2.2.2.1 u.2.2.2.2.2.2.2.2) (fun (u : Int32 × Int32 × (Nat → Int32) × Int32 × Int32 × (Nat → Int32) × Int32 × Int32 × (Nat → Int32)) (t : State) => va_P (dC, dI) vwCl [(h0, .inr (9, [.ref q0, .int u.1, .int u.2.1])), (q0, .inl (c0, 160, .inl u.2.2.1)), (h1, .inr (9, [.ref q1, .int u.2.2.2.1, .int u.2.2.2.2.1])), (q1, .inl (c1, 160, .inl u.2.2.2.2.2.1)), (h2, .inr (9, [.ref q2, .int u.2.2.2.2.2.2.1, .int u.2.2.2.2.2.2.2.1])), (q2, .inl (c2, 160, .inl u.2.2.2.2.2.2.2.2))] t.heap ∧ va_K (dC, dI) vwCl [(c0, .int), (c1, .int), (c2, .int)] t ∧ va_D (va_A [(h0, .inr (9, [.ref q0, .int n0, .int m0])), (q0, .inl (c0, 160, .inl f0)), (h1, .inr (9, [.ref q1, .int n1, .int m1])), (q1, .inl (c1, 160, .inl f1)), (h2, .inr (9, [.ref q2, .int n2, .int m2])), (q2, .inl (c2, 160, .inl f2))] sz) [(h0, .inr (9, [.ref q0, .int u.1, .int u.2.1])), (q0, .inl (c0, 160, .inl u.2.2.1)), (h1, .inr (9, [.ref q1, .int u.2.2.2.1, .int u.2.2.2.2.1])), (q1, .inl (c1, 160, .inl u.2.2.2.2.2.1)), (h2, .inr (9, [.ref q2, .int u.2.2.2.2.2.2.1, .int u.2.2.2.2.2.2.2.1])), (q2, .inl (c2, 160, .inl u.2.2.2.2.2.2.2.2))]) (va_A [(h0, .inr (9, [.ref q0, .int n0, .int m0])), (q0, .inl (c0, 160, .inl f0)), (h1, .inr (9, [.ref q1, .int n1, .int m1])), (q1, .inl (c1, 160, .inl f1)), (h2, .inr (9, [.ref q2, .int n2, .int m2])), (q2, .inl (c2, 160, .inl f2))] sz)) 0 0 (va_A [(h0, .inr (9, [.ref q0, .int n0, .int m0])), (q0, .inl (c0, 160, .inl f0)), (h1, .inr (9, [.ref q1, .int n1, .int m1])), (q1, .inl (c1, 160, .inl f1)), (h2, .inr (9, [.ref q2, .int n2, .int m2])), (q2, .inl (c2, 160, .inl f2))] sz) := by
  refine Met.ofW (cc := prog_16_method_11_code) (maxL := 7) (ret := none) (by decide) rfl ?_
  intro p e s m args below meth c s₁ B hml hv
  obtain ⟨rfl, hsz, hP, hK, hD0, hN⟩ := hv
  have hx := B.exec
  have hb := B.bytes
  have hr := B.returns
  have htw : ∀ w ∈ px_all, w.before _ s = true := fun w h => atoms_spec (ws := px_s18) B.pre w (List.mem_cons_of_mem _ h)
  have hown : s.vm.findClass "MatroidDeskModel$Num" = some m.cls := findClass_of_methodNamed B.named
  have hlocks := B.notSynchronized
  subst hsz
  have hD := hD0.self (sz := s.heap.size)
  generalize hAe : va_A [(h0, .inr (9, [.ref q0, .int n0, .int m0])), (q0, .inl (c0, 160, .inl f0)), (h1, .inr (9, [.ref q1, .int n1, .int m1])), (q1, .inl (c1, 160, .inl f1)), (h2, .inr (9, [.ref q2, .int n2, .int m2])), (q2, .inl (c2, 160, .inl f2))] s.heap.size = A at hD ⊢
  have hA : ∀ q : Nat, s.heap.size ≤ q → A q := fun q h => by rw [← hAe]; exact Or.inr h
  have hS : va_S A s.heap s.heap [] := va_S.rf
  have hP : va_P (dC, dI) vwCl [(h0, .inr (9, [.ref q0, .int n0, .int m0])), (q0, .inl (c0, 160, .inl f0)), (h1, .inr (9, [.ref q1, .int n1, .int m1])), (q1, .inl (c1, 160, .inl f1)), (h2, .inr (9, [.ref q2, .int n2, .int m2])), (q2, .inl (c2, 160, .inl f2))] s.heap := hP
  have hl := lv_entry ([.ref h0, .ref h1, .ref h2]) (n := 7) (Nat.le_of_ble_eq_true rfl)
  rw [lg_entry_eq]
  generalize (lg_sl ([.ref h0, .ref h1, .ref h2]) ++ List.replicate (7 - (lg_sl ([.ref h0, .ref h1, .ref h2])).length) Slot.unset).toArray = ls at hl ⊢
  have hl : lv_has ls 7 [(0, .ref h0), (1, .ref h1), (2, .ref h2)] := hl
  generalize hQ : MQ _ _ _ _ _ _ _ = Q
  have S160 : ∀ (x3 : Int32) (y0 : Int32) (n0 : Int32) (m0 : Int32) (f0 : Nat → Int32) (n1 : Int32) (m1 : Int32) (f1 : Nat → Int32) (n2 : Int32) (m2 : Int32) (f2 : Nat → Int32) (H : Heap) (locs : List Loc) (ls : Array Slot), va_P (dC, dI) vwCl [(h0, .inr (9, [.ref q0, .int n0, .int m0])), (q0, .inl (c0, 160, .inl f0)), (h1, .inr (9, [.ref q1, .int n1, .int m1])), (q1, .inl (c1, 160, .inl f1)), (h2, .inr (9, [.ref q2, .int n2, .int m2])), (q2, .inl (c2, 160, .inl f2))] H → va_D A [(h0, .inr (9, [.ref q0, .int n0, .int m0])), (q0, .inl (c0, 160, .inl f0)), (h1, .inr (9, [.ref q1, .int n1, .int m1])), (q1, .inl (c1, 160, .inl f1)), (h2, .inr (9, [.ref q2, .int n2, .int m2])), (q2, .inl (c2, 160, .inl f2))] → va_S A s.heap H locs → lv_has ls 7 [(0, .ref h0), (1, .ref h1), (2, .ref h2), (3, .int x3)] → npr_L160 post x3 y0 n0 m0 f0 n1 m1 f1 n2 m2 f2 → W p l e (headSpec px_s18 ({ frames := 1, cells := 0, slots := 0, locals := 20 })).room s m ([.ref h0, .ref h1, .ref h2]).toArray below meth c H locs 0 0 Q (F0 m 160 ls [.int y0, .ref h0]) := by
    intro x3 y0 n0 m0 f0 n1 m1 f1 n2 m2 f2 H locs ls hP hD hS hl hw
    unfold npr_L160 at hw
    obtain ⟨hz160, hw⟩ := hw
    refine va_put (D := (dC, dI)) (ci := 9) (v := .int y0) (ty := .boolean) (C := "MatroidDeskModel$Num") (T := px_T9) (N := 3) hx hb htw px_in9 px_ty9 px_tyok9 px_nm9 hown hK hP hD hS 0 rfl rfl 2 (by decide) (htw _ px_w272) (fun _ h9 => h9) rfl (by decide +kernel) (hz160).1 (hz160).2 (Nat.le_of_ble_eq_true rfl) px_d18_160 (fun H locs hP hD hS => ?_)
    have hP : va_P (dC, dI) vwCl [(h0, .inr (9, [.ref q0, .int n0, .int y0])), (q0, .inl (c0, 160, .inl f0)), (h1, .inr (9, [.ref q1, .int n1, .int m1])), (q1, .inl (c1, 160, .inl f1)), (h2, .inr (9, [.ref q2, .int n2, .int m2])), (q2, .inl (c2, 160, .inl f2))] H := hP
    have hD : va_D A [(h0, .inr (9, [.ref q0, .int n0, .int y0])), (q0, .inl (c0, 160, .inl f0)), (h1, .inr (9, [.ref q1, .int n1, .int m1])), (q1, .inl (c1, 160, .inl f1)), (h2, .inr (9, [.ref q2, .int n2, .int m2])), (q2, .inl (c2, 160, .inl f2))] := hD
    refine lv_aload_n hx hb px_d18_163 rfl (lv_at hl 0 rfl) ?_
    have hPc := hP.sub (ws' := [(h0, .inr (9, [.ref q0, .int n0, .int y0])), (q0, .inl (c0, 160, .inl f0))]) [0, 1] rfl
    have hDc := hD.sub (ws' := [(h0, .inr (9, [.ref q0, .int n0, .int y0])), (q0, .inl (c0, 160, .inl f0))]) [0, 1] (by decide) rfl
    have hKc := hK.sub (tys' := [(c0, .int)]) [0] rfl
    have hFc := va_free (wc := [(h0, .inr (9, [.ref q0, .int n0, .int y0])), (q0, .inl (c0, 160, .inl f0))]) hD hS hA [0, 1] rfl
    refine va_callv (va_runV (As := []) (rest := []) ⟨hx, hb, hml, hown, htw⟩ (nt_met l dC dI H.size h0 q0 c0 n0 y0 f0 _ hw) (cwV 0 htw (px_gv px_w300 px_w291 px_w292 px_w149 px_g15) rfl rfl rfl (by decide +kernel) ⟨Nat.le_of_ble_eq_true rfl, Nat.le_of_ble_eq_true rfl⟩) ⟨fun a U g mk q => by obtain ⟨q0, q1, qP, qK, qD, qN⟩ := q; exact ⟨q0, q1, qP, va_K.moved (u := U) (U := U.calling g mk a) (Vm.Alike.refl U.vm) qK, qD, qN.same rfl⟩, va_recv hK hP (ci := 9) (q0 := 0) rfl rfl, fun U hU hW => ⟨rfl, by rw [hU], by rw [hU]; exact hPc, va_K.moved hW.alike hKc, hDc.weaken (fun _ _ _ _ => trivial), hN.warm hW⟩⟩ rfl rfl hl.1 rfl (lv_room (Nat.le_of_ble_eq_true rfl)) px_d18_164 ⟨(Nat.le_of_ble_eq_true rfl), (Nat.le_of_ble_eq_true rfl)⟩) hS (fun q _ h => hFc q h) hFc (fun u t H1 locs ht hvm hw hB hz1 hk1 hS => ?_)
    obtain ⟨v1, v2, v3⟩ := u
    obtain ⟨hP1, hK1, hD1⟩ := hB
    rw [ht] at hP1
    have hK1 := va_K.moved hvm.symm hK1
    obtain ⟨hP, hD⟩ := va_join (wr := [(h1, .inr (9, [.ref q1, .int n1, .int m1])), (q1, .inl (c1, 160, .inl f1)), (h2, .inr (9, [.ref q2, .int n2, .int m2])), (q2, .inl (c2, 160, .inl f2))]) (w1 := [(h0, .inr (9, [.ref q0, .int v1, .int v2])), (q0, .inl (c0, 160, .inl v3))]) hP hD [0, 1] [2, 3, 4, 5] rfl rfl (by decide) (by decide) hk1 hFc hP1 hD1
    generalize H1 = H at hP hS ⊢
    have hP : va_P (dC, dI) vwCl [(h1, .inr (9, [.ref q1, .int n1, .int m1])), (q1, .inl (c1, 160, .inl f1)), (h2, .inr (9, [.ref q2, .int n2, .int m2])), (q2, .inl (c2, 160, .inl f2)), (h0, .inr (9, [.ref q0, .int v1, .int v2])), (q0, .inl (c0, 160, .inl v3))] H := hP
    have hD : va_D A [(h1, .inr (9, [.ref q1, .int n1, .int m1])), (q1, .inl (c1, 160, .inl f1)), (h2, .inr (9, [.ref q2, .int n2, .int m2])), (q2, .inl (c2, 160, .inl f2)), (h0, .inr (9, [.ref q0, .int v1, .int v2])), (q0, .inl (c0, 160, .inl v3))] := hD
    have hP := hP.sub (ws' := [(h0, .inr (9, [.ref q0, .int v1, .int v2])), (q0, .inl (c0, 160, .inl v3)), (h1, .inr (9, [.ref q1, .int n1, .int m1])), (q1, .inl (c1, 160, .inl f1)), (h2, .inr (9, [.ref q2, .int n2, .int m2])), (q2, .inl (c2, 160, .inl f2))]) [4, 5, 0, 1, 2, 3] rfl
    have hD := hD.sub (ws' := [(h0, .inr (9, [.ref q0, .int v1, .int v2])), (q0, .inl (c0, 160, .inl v3)), (h1, .inr (9, [.ref q1, .int n1, .int m1])), (q1, .inl (c1, 160, .inl f1)), (h2, .inr (9, [.ref q2, .int n2, .int m2])), (q2, .inl (c2, 160, .inl f2))]) [4, 5, 0, 1, 2, 3] (by decide) rfl
    rw [← hQ]
    exact W.vret hx hb hr (fun t ht hW => ⟨⟨(v1, v2, v3, n1, m1, f1, n2, m2, f2), rfl, hw, by rw [ht]; exact hP, va_K.moved hW.alike hK, hD⟩, hS.F ht⟩) hS.2.2 px_d18_167
  have S38 : ∀ (k38 : Nat) (x3 : Int32) (n0 : Int32) (m0 : Int32) (f0 : Nat → Int32) (n1 : Int32) (m1 : Int32) (f1 : Nat → Int32) (n2 : Int32) (m2 : Int32) (f2 : Nat → Int32) (H : Heap) (locs : List Loc) (ls : Array Slot), va_P (dC, dI) vwCl [(h0, .inr (9, [.ref q0, .int n0, .int m0])), (q0, .inl (c0, 160, .inl f0)), (h1, .inr (9, [.ref q1, .int n1, .int m1])), (q1, .inl (c1, 160, .inl f1)), (h2, .inr (9, [.ref q2, .int n2, .int m2])), (q2, .inl (c2, 160, .inl f2))] H → va_D A [(h0, .inr (9, [.ref q0, .int n0, .int m0])), (q0, .inl (c0, 160, .inl f0)), (h1, .inr (9, [.ref q1, .int n1, .int m1])), (q1, .inl (c1, 160, .inl f1)), (h2, .inr (9, [.ref q2, .int n2, .int m2])), (q2, .inl (c2, 160, .inl f2))] → va_S A s.heap H locs → lv_has ls 7 [(0, .ref h0), (1, .ref h1), (2, .ref h2), (3, .int x3)] → npr_L38 post k38 x3 n0 m0 f0 n1 m1 f1 n2 m2 f2 → W p l e (headSpec px_s18 ({ frames := 1, cells := 0, slots := 0, locals := 20 })).room s m ([.ref h0, .ref h1, .ref h2]).toArray below meth c H locs 0 0 Q (F0 m 38 ls []) := by
    intro k38
    induction k38 with
    | zero => intro x3 n0 m0 f0 n1 m1 f1 n2 m2 f2 H locs ls hP hD hS hl hw; exact False.elim hw
    | succ k38 ih38 =>
      have S52 : ∀ (k52 : Nat) (x3 : Int32) (x4 : Int64) (x6 : Int32) (n0 : Int32) (m0 : Int32) (f0 : Nat → Int32) (n1 : Int32) (m1 : Int32) (f1 : Nat → Int32) (n2 : Int32) (m2 : Int32) (f2 : Nat → Int32) (H : Heap) (locs : List Loc) (ls : Array Slot), va_P (dC, dI) vwCl [(h0, .inr (9, [.ref q0, .int n0, .int m0])), (q0, .inl (c0, 160, .inl f0)), (h1, .inr (9, [.ref q1, .int n1, .int m1])), (q1, .inl (c1, 160, .inl f1)), (h2, .inr (9, [.ref q2, .int n2, .int m2])), (q2, .inl (c2, 160, .inl f2))] H → va_D A [(h0, .inr (9, [.ref q0, .int n0, .int m0])), (q0, .inl (c0, 160, .inl f0)), (h1, .inr (9, [.ref q1, .int n1, .int m1])), (q1, .inl (c1, 160, .inl f1)), (h2, .inr (9, [.ref q2, .int n2, .int m2])), (q2, .inl (c2, 160, .inl f2))] → va_S A s.heap H locs → lv_has ls 7 [(0, .ref h0), (1, .ref h1), (2, .ref h2), (3, .int x3), (4, .long x4), (6, .int x6)] → npr_L52 (npr_L38 post k38) post k52 x3 x4 x6 n0 m0 f0 n1 m1 f1 n2 m2 f2 → W p l e (headSpec px_s18 ({ frames := 1, cells := 0, slots := 0, locals := 20 })).room s m ([.ref h0, .ref h1, .ref h2]).toArray below meth c H locs 0 0 Q (F0 m 52 ls []) := by
        intro k52
        induction k52 with
        | zero => intro x3 x4 x6 n0 m0 f0 n1 m1 f1 n2 m2 f2 H locs ls hP hD hS hl hw; exact False.elim hw
        | succ k52 ih52 =>
          intro x3 x4 x6 n0 m0 f0 n1 m1 f1 n2 m2 f2 H locs ls hP hD hS hl hw
          unfold npr_L52 at hw
          refine lv_iload hx hb px_d18_52 (lv_at hl 5 rfl) ?_
          refine lv_aload_n hx hb px_d18_54 rfl (lv_at hl 2 rfl) ?_
          refine va_get (D := (dC, dI)) (ci := 9) (v := .int n2) (C := "MatroidDeskModel$Num") (T := px_T9) (N := 3) hx hb htw px_in9 hown hK hP 4 rfl rfl 1 (by decide) (htw _ px_w271) (fun _ h9 => h9) rfl px_d18_55 ?_
          refine lv_icmp_ge (tgt := 123) hx hb px_d18_58 (by decide) (fun c58 => ?_) (fun c58 => ?_)
          · have hw := hw.1 c58
            refine lv_aload_n hx hb px_d18_123 rfl (lv_at hl 0 rfl) ?_
            refine va_get (D := (dC, dI)) (ci := 9) (v := .ref q0) (C := "MatroidDeskModel$Num") (T := px_T9) (N := 3) hx hb htw px_in9 hown hK hP 0 rfl rfl 0 (by decide) (htw _ px_w267) (fun _ h9 => h9) rfl px_d18_124 ?_
            refine lv_iload_n hx hb px_d18_127 rfl (lv_at hl 3 rfl) ?_
            refine lv_aload_n hx hb px_d18_128 rfl (lv_at hl 2 rfl) ?_
            refine va_get (D := (dC, dI)) (ci := 9) (v := .int n2) (C := "MatroidDeskModel$Num") (T := px_T9) (N := 3) hx hb htw px_in9 hown hK hP 4 rfl rfl 1 (by decide) (htw _ px_w271) (fun _ h9 => h9) rfl px_d18_129 ?_
            refine lv_iadd hx hb px_d18_132 ?_
            refine lv_lload hx hb px_d18_133 (lv_at hl 4 rfl) ?_
            refine lv_l2i (v := x4.toInt32) hx hb px_d18_135 rfl ?_
            refine lv_topi (fun z4 ez4 => ?_)
            have hw := hw z4 ez4
            obtain ⟨hi136, hw⟩ := hw
            refine va_iast hx hb hK hP hD hS 1 0 rfl rfl hi136 px_d18_136 (fun H locs hP hD hS => ?_)
            have hP : va_P (dC, dI) vwCl [(h0, .inr (9, [.ref q0, .int n0, .int m0])), (q0, .inl (c0, 160, .inl (upd f0 (Int32.toNatClampNeg (x3 + n2)) z4))), (h1, .inr (9, [.ref q1, .int n1, .int m1])), (q1, .inl (c1, 160, .inl f1)), (h2, .inr (9, [.ref q2, .int n2, .int m2])), (q2, .inl (c2, 160, .inl f2))] H := hP
            have hD : va_D A [(h0, .inr (9, [.ref q0, .int n0, .int m0])), (q0, .inl (c0, 160, .inl (upd f0 (Int32.toNatClampNeg (x3 + n2)) z4))), (h1, .inr (9, [.ref q1, .int n1, .int m1])), (q1, .inl (c1, 160, .inl f1)), (h2, .inr (9, [.ref q2, .int n2, .int m2])), (q2, .inl (c2, 160, .inl f2))] := hD
            obtain ⟨z5, ez5⟩ : ∃ y : Int32, y = x3 + 1 := ⟨_, rfl⟩
            have hw := hw z5 ez5
            refine lv_iinc (v := z5) (lv' := [(3, .int z5), (0, .ref h0), (1, .ref h1), (2, .ref h2), (4, .long x4), (6, .int x6)]) hx hb px_d18_137 hl (k := 3) rfl (by rw [ez5]; rfl) (by decide) rfl (fun ls hl => ?_)
            refine lv_goto (tgt := 38) hx hb px_d18_140 (by decide) ?_
            exact ih38 z5 n0 m0 (upd f0 (Int32.toNatClampNeg (x3 + n2)) z4) n1 m1 f1 n2 m2 f2 H locs ls hP hD hS (lv_sub hl [1, 2, 3, 0] rfl) hw
          · have hw := hw.2 c58
            refine lv_lload hx hb px_d18_61 (lv_at hl 4 rfl) ?_
            refine lv_aload_n hx hb px_d18_63 rfl (lv_at hl 1 rfl) ?_
            refine va_get (D := (dC, dI)) (ci := 9) (v := .ref q1) (C := "MatroidDeskModel$Num") (T := px_T9) (N := 3) hx hb htw px_in9 hown hK hP 2 rfl rfl 0 (by decide) (htw _ px_w267) (fun _ h9 => h9) rfl px_d18_64 ?_
            refine lv_iload_n hx hb px_d18_67 rfl (lv_at hl 3 rfl) ?_
            obtain ⟨hi68, hw⟩ := hw
            refine va_iald hx hb hK hP 3 1 rfl rfl hi68 px_d18_68 ?_
            refine lv_i2l (v := (f1 (Int32.toNatClampNeg x3)).toInt64) hx hb px_d18_69 rfl ?_
            refine lv_aload_n hx hb px_d18_70 rfl (lv_at hl 2 rfl) ?_
            refine va_get (D := (dC, dI)) (ci := 9) (v := .ref q2) (C := "MatroidDeskModel$Num") (T := px_T9) (N := 3) hx hb htw px_in9 hown hK hP 4 rfl rfl 0 (by decide) (htw _ px_w267) (fun _ h9 => h9) rfl px_d18_71 ?_
            refine lv_iload hx hb px_d18_74 (lv_at hl 5 rfl) ?_
            obtain ⟨hi76, hw⟩ := hw
            refine va_iald hx hb hK hP 5 2 rfl rfl hi76 px_d18_76 ?_
            refine lv_i2l (v := (f2 (Int32.toNatClampNeg x6)).toInt64) hx hb px_d18_77 rfl ?_
            refine lv_lmul hx hb px_d18_78 ?_
            refine lv_aload_n hx hb px_d18_79 rfl (lv_at hl 0 rfl) ?_
            refine va_get (D := (dC, dI)) (ci := 9) (v := .ref q0) (C := "MatroidDeskModel$Num") (T := px_T9) (N := 3) hx hb htw px_in9 hown hK hP 0 rfl rfl 0 (by decide) (htw _ px_w267) (fun _ h9 => h9) rfl px_d18_80 ?_
            refine lv_iload_n hx hb px_d18_83 rfl (lv_at hl 3 rfl) ?_
            refine lv_iload hx hb px_d18_84 (lv_at hl 5 rfl) ?_
            refine lv_iadd hx hb px_d18_86 ?_
            obtain ⟨hi87, hw⟩ := hw
            refine va_iald hx hb hK hP 1 0 rfl rfl hi87 px_d18_87 ?_
            refine lv_i2l (v := (f0 (Int32.toNatClampNeg (x3 + x6))).toInt64) hx hb px_d18_88 rfl ?_
            refine lv_ladd hx hb px_d18_89 ?_
            refine lv_ladd hx hb px_d18_90 ?_
            refine lv_topl (fun z6 ez6 => ?_)
            have hw := hw z6 ez6
            refine lv_lstore (lv' := [(4, .long z6), (0, .ref h0), (1, .ref h1), (2, .ref h2), (3, .int x3), (6, .int x6)]) hx hb px_d18_91 hl (by decide) rfl (fun ls hl => ?_)
            refine lv_aload_n hx hb px_d18_93 rfl (lv_at hl 1 rfl) ?_
            refine va_get (D := (dC, dI)) (ci := 9) (v := .ref q0) (C := "MatroidDeskModel$Num") (T := px_T9) (N := 3) hx hb htw px_in9 hown hK hP 0 rfl rfl 0 (by decide) (htw _ px_w267) (fun _ h9 => h9) rfl px_d18_94 ?_
            refine lv_iload_n hx hb px_d18_97 rfl (lv_at hl 4 rfl) ?_
            refine lv_iload hx hb px_d18_98 (lv_at hl 5 rfl) ?_
            refine lv_iadd hx hb px_d18_100 ?_
            refine lv_lload hx hb px_d18_101 (lv_at hl 0 rfl) ?_
            refine lv_ldc2 hx hb (own := "MatroidDeskModel$Num") (index := 24) (v := 65536) hown (htw _ px_w280) px_d18_103 ?_
            refine lv_lrem hx hb px_d18_106 (by decide +kernel) ?_
            refine lv_l2i (v := (z6 - z6 / 65536 * 65536).toInt32) hx hb px_d18_107 rfl ?_
            refine lv_topi (fun z7 ez7 => ?_)
            have hw := hw z7 ez7
            obtain ⟨hi108, hw⟩ := hw
            refine va_iast hx hb hK hP hD hS 1 0 rfl rfl hi108 px_d18_108 (fun H locs hP hD hS => ?_)
            have hP : va_P (dC, dI) vwCl [(h0, .inr (9, [.ref q0, .int n0, .int m0])), (q0, .inl (c0, 160, .inl (upd f0 (Int32.toNatClampNeg (x3 + x6)) z7))), (h1, .inr (9, [.ref q1, .int n1, .int m1])), (q1, .inl (c1, 160, .inl f1)), (h2, .inr (9, [.ref q2, .int n2, .int m2])), (q2, .inl (c2, 160, .inl f2))] H := hP
            have hD : va_D A [(h0, .inr (9, [.ref q0, .int n0, .int m0])), (q0, .inl (c0, 160, .inl (upd f0 (Int32.toNatClampNeg (x3 + x6)) z7))), (h1, .inr (9, [.ref q1, .int n1, .int m1])), (q1, .inl (c1, 160, .inl f1)), (h2, .inr (9, [.ref q2, .int n2, .int m2])), (q2, .inl (c2, 160, .inl f2))] := hD
            refine lv_lload hx hb px_d18_109 (lv_at hl 0 rfl) ?_
            refine lv_ldc2 hx hb (own := "MatroidDeskModel$Num") (index := 24) (v := 65536) hown (htw _ px_w280) px_d18_111 ?_
            refine lv_ldiv hx hb px_d18_114 (by decide +kernel) ?_
            refine lv_topl (fun z8 ez8 => ?_)
            have hw := hw z8 ez8
            refine lv_lstore (lv' := [(4, .long z8), (0, .ref h0), (1, .ref h1), (2, .ref h2), (3, .int x3), (6, .int x6)]) hx hb px_d18_115 hl (by decide) rfl (fun ls hl => ?_)
            obtain ⟨z9, ez9⟩ : ∃ y : Int32, y = x6 + 1 := ⟨_, rfl⟩
            have hw := hw z9 ez9
            refine lv_iinc (v := z9) (lv' := [(6, .int z9), (4, .long z8), (0, .ref h0), (1, .ref h1), (2, .ref h2), (3, .int x3)]) hx hb px_d18_117 hl (k := 5) rfl (by rw [ez9]; rfl) (by decide) rfl (fun ls hl => ?_)
            refine lv_goto (tgt := 52) hx hb px_d18_120 (by decide) ?_
            exact ih52 x3 z8 z9 n0 m0 (upd f0 (Int32.toNatClampNeg (x3 + x6)) z7) n1 m1 f1 n2 m2 f2 H locs ls hP hD hS (lv_sub hl [2, 3, 4, 5, 1, 0] rfl) hw
      intro x3 n0 m0 f0 n1 m1 f1 n2 m2 f2 H locs ls hP hD hS hl hw
      unfold npr_L38 at hw
      refine lv_iload_n hx hb px_d18_38 rfl (lv_at hl 3 rfl) ?_
      refine lv_aload_n hx hb px_d18_39 rfl (lv_at hl 1 rfl) ?_
      refine va_get (D := (dC, dI)) (ci := 9) (v := .int n1) (C := "MatroidDeskModel$Num") (T := px_T9) (N := 3) hx hb htw px_in9 hown hK hP 2 rfl rfl 1 (by decide) (htw _ px_w271) (fun _ h9 => h9) rfl px_d18_40 ?_
      refine lv_icmp_ge (tgt := 143) hx hb px_d18_43 (by decide) (fun c43 => ?_) (fun c43 => ?_)
      · have hw := hw.1 c43
        refine lv_aload_n hx hb px_d18_143 rfl (lv_at hl 0 rfl) ?_
        refine lv_aload_n hx hb px_d18_144 rfl (lv_at hl 1 rfl) ?_
        refine va_get (D := (dC, dI)) (ci := 9) (v := .int m1) (C := "MatroidDeskModel$Num") (T := px_T9) (N := 3) hx hb htw px_in9 hown hK hP 2 rfl rfl 2 (by decide) (htw _ px_w272) (fun _ h9 => h9) rfl px_d18_145 ?_
        refine lv_aload_n hx hb px_d18_148 rfl (lv_at hl 2 rfl) ?_
        refine va_get (D := (dC, dI)) (ci := 9) (v := .int m2) (C := "MatroidDeskModel$Num") (T := px_T9) (N := 3) hx hb htw px_in9 hown hK hP 4 rfl rfl 2 (by decide) (htw _ px_w272) (fun _ h9 => h9) rfl px_d18_149 ?_
        refine lv_icmp_eq (tgt := 159) hx hb px_d18_152 (by decide) (fun c152 => ?_) (fun c152 => ?_)
        · have hw := hw.1 c152
          refine lv_iconst (v := 0) hx hb px_d18_159 (by decide) ?_
          exact S160 x3 0 n0 m0 f0 n1 m1 f1 n2 m2 f2 H locs ls hP hD hS (lv_sub hl [0, 1, 2, 3] rfl) hw
        · have hw := hw.2 c152
          refine lv_iconst (v := 1) hx hb px_d18_155 (by decide) ?_
          refine lv_goto (tgt := 160) hx hb px_d18_156 (by decide) ?_
          exact S160 x3 1 n0 m0 f0 n1 m1 f1 n2 m2 f2 H locs ls hP hD hS (lv_sub hl [0, 1, 2, 3] rfl) hw
      · have hw := hw.2 c43
        refine lv_lconst (v := 0) hx hb px_d18_46 (by decide) ?_
        refine lv_lstore (lv' := [(4, .long 0), (0, .ref h0), (1, .ref h1), (2, .ref h2), (3, .int x3)]) hx hb px_d18_47 hl (by decide) rfl (fun ls hl => ?_)
        refine lv_iconst (v := 0) hx hb px_d18_49 (by decide) ?_
        refine lv_istore (lv' := [(6, .int 0), (4, .long 0), (0, .ref h0), (1, .ref h1), (2, .ref h2), (3, .int x3)]) hx hb px_d18_50 hl (by decide) rfl (fun ls hl => ?_)
        obtain ⟨k9, hw⟩ := hw
        exact S52 k9 x3 0 0 n0 m0 f0 n1 m1 f1 n2 m2 f2 H locs ls hP hD hS (lv_sub hl [2, 3, 4, 5, 1, 0] rfl) hw
  have S15 : ∀ (k15 : Nat) (x3 : Int32) (n0 : Int32) (m0 : Int32) (f0 : Nat → Int32) (n1 : Int32) (m1 : Int32) (f1 : Nat → Int32) (n2 : Int32) (m2 : Int32) (f2 : Nat → Int32) (H : Heap) (locs : List Loc) (ls : Array Slot), va_P (dC, dI) vwCl [(h0, .inr (9, [.ref q0, .int n0, .int m0])), (q0, .inl (c0, 160, .inl f0)), (h1, .inr (9, [.ref q1, .int n1, .int m1])), (q1, .inl (c1, 160, .inl f1)), (h2, .inr (9, [.ref q2, .int n2, .int m2])), (q2, .inl (c2, 160, .inl f2))] H → va_D A [(h0, .inr (9, [.ref q0, .int n0, .int m0])), (q0, .inl (c0, 160, .inl f0)), (h1, .inr (9, [.ref q1, .int n1, .int m1])), (q1, .inl (c1, 160, .inl f1)), (h2, .inr (9, [.ref q2, .int n2, .int m2])), (q2, .inl (c2, 160, .inl f2))] → va_S A s.heap H locs → lv_has ls 7 [(0, .ref h0), (1, .ref h1), (2, .ref h2), (3, .int x3)] → npr_L15 post k15 x3 n0 m0 f0 n1 m1 f1 n2 m2 f2 → W p l e (headSpec px_s18 ({ frames := 1, cells := 0, slots := 0, locals := 20 })).room s m ([.ref h0, .ref h1, .ref h2]).toArray below meth c H locs 0 0 Q (F0 m 15 ls []) := by
    intro k15
    induction k15 with
    | zero => intro x3 n0 m0 f0 n1 m1 f1 n2 m2 f2 H locs ls hP hD hS hl hw; exact False.elim hw
    | succ k15 ih15 =>
      intro x3 n0 m0 f0 n1 m1 f1 n2 m2 f2 H locs ls hP hD hS hl hw
      unfold npr_L15 at hw
      refine lv_iload_n hx hb px_d18_15 rfl (lv_at hl 3 rfl) ?_
      refine lv_aload_n hx hb px_d18_16 rfl (lv_at hl 0 rfl) ?_
      refine va_get (D := (dC, dI)) (ci := 9) (v := .int n0) (C := "MatroidDeskModel$Num") (T := px_T9) (N := 3) hx hb htw px_in9 hown hK hP 0 rfl rfl 1 (by decide) (htw _ px_w271) (fun _ h9 => h9) rfl px_d18_17 ?_
      refine lv_icmp_ge (tgt := 36) hx hb px_d18_20 (by decide) (fun c20 => ?_) (fun c20 => ?_)
      · have hw := hw.1 c20
        refine lv_iconst (v := 0) hx hb px_d18_36 (by decide) ?_
        refine lv_istore_n (lv' := [(3, .int 0), (0, .ref h0), (1, .ref h1), (2, .ref h2)]) hx hb px_d18_37 rfl hl (by decide) rfl (fun ls hl => ?_)
        obtain ⟨k9, hw⟩ := hw
        exact S38 k9 0 n0 m0 f0 n1 m1 f1 n2 m2 f2 H locs ls hP hD hS (lv_sub hl [1, 2, 3, 0] rfl) hw
      · have hw := hw.2 c20
        refine lv_aload_n hx hb px_d18_23 rfl (lv_at hl 0 rfl) ?_
        refine va_get (D := (dC, dI)) (ci := 9) (v := .ref q0) (C := "MatroidDeskModel$Num") (T := px_T9) (N := 3) hx hb htw px_in9 hown hK hP 0 rfl rfl 0 (by decide) (htw _ px_w267) (fun _ h9 => h9) rfl px_d18_24 ?_
        refine lv_iload_n hx hb px_d18_27 rfl (lv_at hl 3 rfl) ?_
        refine lv_iconst (v := 0) hx hb px_d18_28 (by decide) ?_
        obtain ⟨hi29, hw⟩ := hw
        refine va_iast hx hb hK hP hD hS 1 0 rfl rfl hi29 px_d18_29 (fun H locs hP hD hS => ?_)
        have hP : va_P (dC, dI) vwCl [(h0, .inr (9, [.ref q0, .int n0, .int m0])), (q0, .inl (c0, 160, .inl (upd f0 (Int32.toNatClampNeg x3) 0))), (h1, .inr (9, [.ref q1, .int n1, .int m1])), (q1, .inl (c1, 160, .inl f1)), (h2, .inr (9, [.ref q2, .int n2, .int m2])), (q2, .inl (c2, 160, .inl f2))] H := hP
        have hD : va_D A [(h0, .inr (9, [.ref q0, .int n0, .int m0])), (q0, .inl (c0, 160, .inl (upd f0 (Int32.toNatClampNeg x3) 0))), (h1, .inr (9, [.ref q1, .int n1, .int m1])), (q1, .inl (c1, 160, .inl f1)), (h2, .inr (9, [.ref q2, .int n2, .int m2])), (q2, .inl (c2, 160, .inl f2))] := hD
        obtain ⟨z10, ez10⟩ : ∃ y : Int32, y = x3 + 1 := ⟨_, rfl⟩
        have hw := hw z10 ez10
        refine lv_iinc (v := z10) (lv' := [(3, .int z10), (0, .ref h0), (1, .ref h1), (2, .ref h2)]) hx hb px_d18_30 hl (k := 3) rfl (by rw [ez10]; rfl) (by decide) rfl (fun ls hl => ?_)
        refine lv_goto (tgt := 15) hx hb px_d18_33 (by decide) ?_
        exact ih15 z10 n0 m0 (upd f0 (Int32.toNatClampNeg x3) 0) n1 m1 f1 n2 m2 f2 H locs ls hP hD hS (lv_sub hl [1, 2, 3, 0] rfl) hw
  unfold npr_wp at hw
  have hS0 := hS
  obtain ⟨H, hH9⟩ : ∃ z, z = s.heap := ⟨_, rfl⟩
  have hP : va_P (dC, dI) vwCl [(h0, .inr (9, [.ref q0, .int n0, .int m0])), (q0, .inl (c0, 160, .inl f0)), (h1, .inr (9, [.ref q1, .int n1, .int m1])), (q1, .inl (c1, 160, .inl f1)), (h2, .inr (9, [.ref q2, .int n2, .int m2])), (q2, .inl (c2, 160, .inl f2))] H := by rw [hH9]; exact hP
  obtain ⟨locs, hlo9⟩ : ∃ z : List Loc, z = [] := ⟨_, rfl⟩
  have hS : va_S A s.heap H locs := by rw [hH9, hlo9]; exact hS
  suffices hG : W p l e (headSpec px_s18 ({ frames := 1, cells := 0, slots := 0, locals := 20 })).room s m ([.ref h0, .ref h1, .ref h2]).toArray below meth c H locs 0 0 Q (F0 m 0 ls []) by rw [hH9, hlo9] at hG; exact hG
  refine lv_aload_n hx hb px_d18_0 rfl (lv_at hl 0 rfl) ?_
  refine lv_aload_n hx hb px_d18_1 rfl (lv_at hl 1 rfl) ?_
  refine va_get (D := (dC, dI)) (ci := 9) (v := .int n1) (C := "MatroidDeskModel$Num") (T := px_T9) (N := 3) hx hb htw px_in9 hown hK hP 2 rfl rfl 1 (by decide) (htw _ px_w271) (fun _ h9 => h9) rfl px_d18_2 ?_
  refine lv_aload_n hx hb px_d18_5 rfl (lv_at hl 2 rfl) ?_
  refine va_get (D := (dC, dI)) (ci := 9) (v := .int n2) (C := "MatroidDeskModel$Num") (T := px_T9) (N := 3) hx hb htw px_in9 hown hK hP 4 rfl rfl 1 (by decide) (htw _ px_w271) (fun _ h9 => h9) rfl px_d18_6 ?_
  refine lv_iadd hx hb px_d18_9 ?_
  refine lv_topi (fun z11 ez11 => ?_)
  have hw := hw z11 ez11
  refine va_put (D := (dC, dI)) (ci := 9) (v := .int z11) (ty := .int) (C := "MatroidDeskModel$Num") (T := px_T9) (N := 3) hx hb htw px_in9 px_ty9 px_tyok9 px_nm9 hown hK hP hD hS 0 rfl rfl 1 (by decide) (htw _ px_w271) (fun _ h9 => h9) rfl (by decide +kernel) rfl rfl (Nat.le_of_ble_eq_true rfl) px_d18_10 (fun H locs hP hD hS => ?_)
  have hP : va_P (dC, dI) vwCl [(h0, .inr (9, [.ref q0, .int z11, .int m0])), (q0, .inl (c0, 160, .inl f0)), (h1, .inr (9, [.ref q1, .int n1, .int m1])), (q1, .inl (c1, 160, .inl f1)), (h2, .inr (9, [.ref q2, .int n2, .int m2])), (q2, .inl (c2, 160, .inl f2))] H := hP
  have hD : va_D A [(h0, .inr (9, [.ref q0, .int z11, .int m0])), (q0, .inl (c0, 160, .inl f0)), (h1, .inr (9, [.ref q1, .int n1, .int m1])), (q1, .inl (c1, 160, .inl f1)), (h2, .inr (9, [.ref q2, .int n2, .int m2])), (q2, .inl (c2, 160, .inl f2))] := hD
  refine lv_iconst (v := 0) hx hb px_d18_13 (by decide) ?_
  refine lv_istore_n (lv' := [(3, .int 0), (0, .ref h0), (1, .ref h1), (2, .ref h2)]) hx hb px_d18_14 rfl hl (by decide) rfl (fun ls hl => ?_)
  obtain ⟨k9, hw⟩ := hw
  exact S15 k9 0 z11 m0 f0 n1 m1 f1 n2 m2 f2 H locs ls hP hD hS (lv_sub hl [1, 2, 3, 0] rfl) hw

