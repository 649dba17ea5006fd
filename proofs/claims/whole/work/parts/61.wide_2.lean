/-! MatroidDesk$Wide.divide(LMatroidDesk$Wide;LMatroidDesk$Wide;)V -/
def w330_L109 (K48 : Int32 → Int64 → Int64 → Int64 → Int64 → Int64 → Int64 → Int64 → Int64 → Int64 → Prop) (post : Int64 → Int64 → Int64 → Int64 → Int64 → Int64 → Int64 → Int64 → Int64 → Prop) (x3 : Int32) (w0_low : Int64) (w0_middle : Int64) (w0_high : Int64) (w1_low : Int64) (w1_middle : Int64) (w1_high : Int64) (w2_low : Int64) (w2_middle : Int64) (w2_high : Int64) : Prop := ∀ z1 : Int32, z1 = x3 + 1 → K48 z1 w0_low w0_middle w0_high w1_low w1_middle w1_high w2_low w2_middle w2_high
def w330_L48 (post : Int64 → Int64 → Int64 → Int64 → Int64 → Int64 → Int64 → Int64 → Int64 → Prop) : Nat → Int32 → Int64 → Int64 → Int64 → Int64 → Int64 → Int64 → Int64 → Int64 → Int64 → Prop
  | 0 => fun _ _ _ _ _ _ _ _ _ _ => False
  | k + 1 => fun x3 w0_low w0_middle w0_high w1_low w1_middle w1_high w2_low w2_middle w2_high => (144 ≤ x3 → post w0_low w0_middle w0_high w1_low w1_middle w1_high w2_low w2_middle w2_high) ∧ (¬ 144 ≤ x3 → w329_wp (fun v2 v3 v4 => w329_wp (fun v5 v6 v7 => ∀ z8 : Int64, z8 = v7 &&& 281474976710655 → w325_wp (fun r88 v9 v10 v11 v12 v13 v14 => (r88 < 0 → w330_L109 (w330_L48 post k) post x3 v5 v6 z8 v12 v13 v14 v9 v10 v11) ∧ (¬ r88 < 0 → w328_wp (fun v15 v16 v17 v18 v19 v20 => ∀ z21 : Int64, z21 = v5 ||| 1 → w330_L109 (w330_L48 post k) post x3 z21 v6 z8 v18 v19 v20 v15 v16 v17) v9 v10 v11 v12 v13 v14)) v2 v3 v4 w1_low w1_middle w1_high) 0 w0_low w0_middle w0_high) ((((w0_high : Int64) >>> ((47 : Int32).toInt64 &&& 63)) &&& 1).toInt32) w2_low w2_middle w2_high)
def w330_L38 (post : Int64 → Int64 → Int64 → Int64 → Int64 → Int64 → Int64 → Int64 → Int64 → Prop) (w0_low : Int64) (w0_middle : Int64) (w0_high : Int64) (w1_low : Int64) (w1_middle : Int64) (w1_high : Int64) (w2_low : Int64) (w2_middle : Int64) (w2_high : Int64) : Prop := w317_wp (fun r42 v22 v23 v24 => ∃ j48, w330_L48 post j48 0 w0_low w0_middle w0_high w1_low w1_middle w1_high v22 v23 v24) 0 0 0 w2_low w2_middle w2_high
def w330_wp (post : Int64 → Int64 → Int64 → Int64 → Int64 → Int64 → Int64 → Int64 → Int64 → Prop) (w0_low : Int64) (w0_middle : Int64) (w0_high : Int64) (w1_low : Int64) (w1_middle : Int64) (w1_high : Int64) (w2_low : Int64) (w2_middle : Int64) (w2_high : Int64) : Prop := w320_wp (fun r1 v25 v26 v27 => (r1 = 0 → w330_L38 post v25 v26 v27 w1_low w1_middle w1_high w2_low w2_middle w2_high) ∧ (¬ r1 = 0 → w320_wp (fun r8 v28 v29 v30 => (r8 = 0 → w330_L38 post v25 v26 v27 v28 v29 v30 w2_low w2_middle w2_high) ∧ (¬ r8 = 0 → w318_wp (fun r15 v31 v32 v33 => (¬ r15 = 0 → w330_L38 post v25 v26 v27 v31 v32 v33 w2_low w2_middle w2_high) ∧ (r15 = 0 → w321_wp (fun r23 v34 v35 v36 => w321_wp (fun r27 v37 v38 v39 => ¬ r27 = 0 ∧ (w317_wp (fun r33 v40 v41 v42 => post v40 v41 v42 v37 v38 v39 w2_low w2_middle w2_high) (r23 / r27) 0 0 v34 v35 v36)) v31 v32 v33) v25 v26 v27)) v28 v29 v30)) w1_low w1_middle w1_high)) w0_low w0_middle w0_high
set_option maxHeartbeats 8000000 in
set_option maxRecDepth 100000 in
theorem w330_met (l : Launch) (dC : Nat → ClassId) (dI : Nat → Nat → Nat) (sz : Nat) (h0 : Nat) (h1 : Nat) (h2 : Nat) (w0_low : Int64) (w0_middle : Int64) (w0_high : Int64) (w1_low : Int64) (w1_middle : Int64) (w1_high : Int64) (w2_low : Int64) (w2_middle : Int64) (w2_high : Int64) (post : Int64 → Int64 → Int64 → Int64 → Int64 → Int64 → Int64 → Int64 → Int64 → Prop) (hw : w330_wp post w0_low w0_middle w0_high w1_low w1_middle w1_high w2_low w2_middle w2_high) : Met l px_y330 px_s330 ({ frames := 2, cells := 0, slots := 0, locals := 44 }) (va_Pc [.ref h0, .ref h1, .ref h2] (fun U => U.heap.size = sz ∧ va_P (dC, dI) vwCl [(h0, .inr (3, [.long w0_low, .long w0_middle, .long w0_high])), (h1, .inr (3, [.long w1_low, .long w1_middle, .long w1_high])), (h2, .inr (3, [.long w2_low, .long w2_middle, .long w2_high]))] U.heap ∧ va_K (dC, dI) vwCl [] U ∧ va_D (fun _ => True) [(h0, .inr (3, [.long w0_low, .long w0_middle, .long w0_high])), (h1, .inr (3, [.long w1_low, .long w1_middle, .long w1_high])), (h2, .inr (3, [.long w2_low, .long w2_middle, .long w2_high]))] ∧ px_N U)) (va_Qv (fun (u : Int64 × Int64 × Int64 × Int64 × Int64 × Int64 × Int64 × Int64 × Int64) => post u.1 u.2.1 u.2.2.1 u.2.2.2.1 u.2.2.2.2.1 u.2.2.2.2.2.1 u.2.2.2.2.2.2.1 u.2.2.2.2.2.2.2.1 u.2.2.2.2.2.2.2.2) (fun (u : Int64 × Int64 × Int64 × Int64 × Int64 × Int64 × Int64 × Int64 × Int64) (t : State) => va_P (dC, dI) vwCl [(h0, .inr (3, [.long u.1, .long u.2.1, .long u.2.2.1])), (h1, .inr (3, [.long u.2.2.2.1, .long u.2.2.2.2.1, .long u.2.2.2.2.2.1])), (h2, .inr (3, [.long u.2.2.2.2.2.2.1, .long u.2.2.2.2.2.2.2.1, .long u.2.2.2.2.2.2.2.2]))] t.heap ∧ va_K (dC, dI) vwCl [] t ∧ va_D (va_A [(h0, .inr (3, [.long w0_low, .long w0_middle, .long w0_high])), (h1, .inr (3, [.long w1_low, .long w1_middle, .long w1_high])), (h2, .inr (3, [.long w2_low, .long w2_middle, .long w2_high]))] sz) [(h0, .inr (3, [.long u.1, .long u.2.1, .long u.2.2.1])), (h1, .inr (3, [.long u.2.2.2.1, .long u.2.2.2.2.1, .long u.2.2.2.2.2.1])), (h2, .inr (3, [.long u.2.2.2.2.2.2.1, .long u.2.2.2.2.2.2.2.1, .long u.2.2.2.2.2.2.2.2]))]) (va_A [(h0, .inr (3, [.long w0_low, .long w0_middle, .long w0_high])), (h1, .inr (3, [.long w1_low, .long w1_middle, .long w1_high])), (h2, .inr (3, [.long w2_low, .long w2_middle, .long w2_high]))] sz)) 0 0 (va_A [(h0, .inr (3, [.long w0_low, .long w0_middle, .long w0_high])), (h1, .inr (3, [.long w1_low, .long w1_middle, .long w1_high])), (h2, .inr (3, [.long w2_low, .long w2_middle, .long w2_high]))] sz) := by
  refine Met.ofW (cc := prog_12_method_8_code) (maxL := 4) (ret := none) (by decide) rfl ?_
  intro p e s m args below meth c s₁ B hml hv
  obtain ⟨rfl, hsz, hP, hK, hD0, hN⟩ := hv
  have hx := B.exec
  have hb := B.bytes
  have hr := B.returns
  have htw : ∀ w ∈ px_all, w.before _ s = true := fun w h => atoms_spec (ws := px_s330) B.pre w (List.mem_cons_of_mem _ h)
  have hown : s.vm.findClass "MatroidDesk$Wide" = some m.cls := findClass_of_methodNamed B.named
  have hlocks := B.notSynchronized
  subst hsz
  have hD := hD0.self (sz := s.heap.size)
  generalize hAe : va_A [(h0, .inr (3, [.long w0_low, .long w0_middle, .long w0_high])), (h1, .inr (3, [.long w1_low, .long w1_middle, .long w1_high])), (h2, .inr (3, [.long w2_low, .long w2_middle, .long w2_high]))] s.heap.size = A at hD ⊢
  have hA : ∀ q : Nat, s.heap.size ≤ q → A q := fun q h => by rw [← hAe]; exact Or.inr h
  have hS : va_S A s.heap s.heap [] := va_S.rf
  have hP : va_P (dC, dI) vwCl [(h0, .inr (3, [.long w0_low, .long w0_middle, .long w0_high])), (h1, .inr (3, [.long w1_low, .long w1_middle, .long w1_high])), (h2, .inr (3, [.long w2_low, .long w2_middle, .long w2_high]))] s.heap := hP
  have hl := lv_entry ([.ref h0, .ref h1, .ref h2]) (n := 4) (Nat.le_of_ble_eq_true rfl)
  rw [lg_entry_eq]
  generalize (lg_sl ([.ref h0, .ref h1, .ref h2]) ++ List.replicate (4 - (lg_sl ([.ref h0, .ref h1, .ref h2])).length) Slot.unset).toArray = ls at hl ⊢
  have hl : lv_has ls 4 [(0, .ref h0), (1, .ref h1), (2, .ref h2)] := hl
  generalize hQ : MQ _ _ _ _ _ _ _ = Q
  have S48 : ∀ (k48 : Nat) (x3 : Int32) (w0_low : Int64) (w0_middle : Int64) (w0_high : Int64) (w1_low : Int64) (w1_middle : Int64) (w1_high : Int64) (w2_low : Int64) (w2_middle : Int64) (w2_high : Int64) (H : Heap) (locs : List Loc) (ls : Array Slot), va_P (dC, dI) vwCl [(h0, .inr (3, [.long w0_low, .long w0_middle, .long w0_high])), (h1, .inr (3, [.long w1_low, .long w1_middle, .long w1_high])), (h2, .inr (3, [.long w2_low, .long w2_middle, .long w2_high]))] H → va_D A [(h0, .inr (3, [.long w0_low, .long w0_middle, .long w0_high])), (h1, .inr (3, [.long w1_low, .long w1_middle, .long w1_high])), (h2, .inr (3, [.long w2_low, .long w2_middle, .long w2_high]))] → va_S A s.heap H locs → lv_has ls 4 [(0, .ref h0), (1, .ref h1), (2, .ref h2), (3, .int x3)] → w330_L48 post k48 x3 w0_low w0_middle w0_high w1_low w1_middle w1_high w2_low w2_middle w2_high → W p l e (headSpec px_s330 ({ frames := 2, cells := 0, slots := 0, locals := 44 })).room s m ([.ref h0, .ref h1, .ref h2]).toArray below meth c H locs 0 0 Q (F0 m 48 ls []) := by
    intro k48
    induction k48 with
    | zero => intro x3 w0_low w0_middle w0_high w1_low w1_middle w1_high w2_low w2_middle w2_high H locs ls hP hD hS hl hw; exact False.elim hw
    | succ k48 ih48 =>
      have S109 : ∀ (x3 : Int32) (w0_low : Int64) (w0_middle : Int64) (w0_high : Int64) (w1_low : Int64) (w1_middle : Int64) (w1_high : Int64) (w2_low : Int64) (w2_middle : Int64) (w2_high : Int64) (H : Heap) (locs : List Loc) (ls : Array Slot), va_P (dC, dI) vwCl [(h0, .inr (3, [.long w0_low, .long w0_middle, .long w0_high])), (h1, .inr (3, [.long w1_low, .long w1_middle, .long w1_high])), (h2, .inr (3, [.long w2_low, .long w2_middle, .long w2_high]))] H → va_D A [(h0, .inr (3, [.long w0_low, .long w0_middle, .long w0_high])), (h1, .inr (3, [.long w1_low, .long w1_middle, .long w1_high])), (h2, .inr (3, [.long w2_low, .long w2_middle, .long w2_high]))] → va_S A s.heap H locs → lv_has ls 4 [(0, .ref h0), (1, .ref h1), (2, .ref h2), (3, .int x3)] → w330_L109 (w330_L48 post k48) post x3 w0_low w0_middle w0_high w1_low w1_middle w1_high w2_low w2_middle w2_high → W p l e (headSpec px_s330 ({ frames := 2, cells := 0, slots := 0, locals := 44 })).room s m ([.ref h0, .ref h1, .ref h2]).toArray below meth c H locs 0 0 Q (F0 m 109 ls []) := by
        intro x3 w0_low w0_middle w0_high w1_low w1_middle w1_high w2_low w2_middle w2_high H locs ls hP hD hS hl hw
        unfold w330_L109 at hw
        obtain ⟨z1, ez1⟩ : ∃ y : Int32, y = x3 + 1 := ⟨_, rfl⟩
        have hw := hw z1 ez1
        refine lv_iinc (v := z1) (lv' := [(3, .int z1), (0, .ref h0), (1, .ref h1), (2, .ref h2)]) hx hb px_d330_109 hl (k := 3) rfl (by rw [ez1]; rfl) (by decide) rfl (fun ls hl => ?_)
        refine lv_goto (tgt := 48) hx hb px_d330_112 (by decide) ?_
        exact ih48 z1 w0_low w0_middle w0_high w1_low w1_middle w1_high w2_low w2_middle w2_high H locs ls hP hD hS (lv_sub hl [1, 2, 3, 0] rfl) hw
      intro x3 w0_low w0_middle w0_high w1_low w1_middle w1_high w2_low w2_middle w2_high H locs ls hP hD hS hl hw
      unfold w330_L48 at hw
      refine lv_iload_n hx hb px_d330_48 rfl (lv_at hl 3 rfl) ?_
      refine lv_sipush (v := 144) hx hb px_d330_49 (by decide) ?_
      refine lv_icmp_ge (tgt := 115) hx hb px_d330_52 (by decide) (fun c52 => ?_) (fun c52 => ?_)
      · have hw := hw.1 c52
        rw [← hQ]
        exact W.vret hx hb hr (fun t ht hW => ⟨⟨(w0_low, w0_middle, w0_high, w1_low, w1_middle, w1_high, w2_low, w2_middle, w2_high), rfl, hw, by rw [ht]; exact hP, va_K.moved hW.alike hK, hD⟩, hS.F ht⟩) hS.2.2 px_d330_115
      · have hw := hw.2 c52
        refine lv_aload_n hx hb px_d330_55 rfl (lv_at hl 2 rfl) ?_
        refine lv_aload_n hx hb px_d330_56 rfl (lv_at hl 0 rfl) ?_
        refine va_get (D := (dC, dI)) (ci := 3) (v := .long w0_high) (C := "MatroidDesk$Wide") (T := px_T3) (N := 3) hx hb htw px_in3 hown hK hP 0 rfl rfl 2 (by decide) (htw _ px_w1595) (fun _ h9 => h9) rfl px_d330_57 ?_
        refine lv_bipush (v := 47) hx hb px_d330_60 (by decide) ?_
        refine lv_lshr (v := (w0_high : Int64) >>> ((47 : Int32).toInt64 &&& 63)) hx hb px_d330_62 rfl ?_
        refine lv_lconst (v := 1) hx hb px_d330_63 (by decide) ?_
        refine lv_land hx hb px_d330_64 ?_
        refine lv_l2i (v := (((w0_high : Int64) >>> ((47 : Int32).toInt64 &&& 63)) &&& 1).toInt32) hx hb px_d330_65 rfl ?_
        have hPc := hP.sub (ws' := [(h2, .inr (3, [.long w2_low, .long w2_middle, .long w2_high]))]) [2] rfl
        have hDc := hD.sub (ws' := [(h2, .inr (3, [.long w2_low, .long w2_middle, .long w2_high]))]) [2] (by decide) rfl
        have hKc := hK.sub (tys' := []) [] rfl
        have hFc := va_free (wc := [(h2, .inr (3, [.long w2_low, .long w2_middle, .long w2_high]))]) hD hS hA [2] rfl
        refine va_callv (va_runV (As := [.int ((((w0_high : Int64) >>> ((47 : Int32).toInt64 &&& 63)) &&& 1).toInt32)]) (rest := []) ⟨hx, hb, hml, hown, htw⟩ (w329_met l dC dI H.size h2 ((((w0_high : Int64) >>> ((47 : Int32).toInt64 &&& 63)) &&& 1).toInt32) w2_low w2_middle w2_high _ hw) (cwV 1 htw (px_gv px_w1611 px_w1641 px_w1642 px_w41 px_g329) rfl rfl rfl (by decide +kernel) ⟨Nat.le_of_ble_eq_true rfl, Nat.le_of_ble_eq_true rfl⟩) ⟨fun a U g mk q => by obtain ⟨q0, q1, qP, qK, qD, qN⟩ := q; exact ⟨q0, q1, qP, va_K.moved (u := U) (U := U.calling g mk a) (Vm.Alike.refl U.vm) qK, qD, qN.same rfl⟩, va_recv hK hP (ci := 3) (q0 := 2) rfl rfl, fun U hU hW => ⟨rfl, by rw [hU], by rw [hU]; exact hPc, va_K.moved hW.alike hKc, hDc.weaken (fun _ _ _ _ => trivial), hN.warm hW⟩⟩ rfl rfl hl.1 rfl (lv_room (Nat.le_of_ble_eq_true rfl)) px_d330_66 ⟨(Nat.le_of_ble_eq_true rfl), (Nat.le_of_ble_eq_true rfl)⟩) hS (fun q _ h => hFc q h) hFc (fun u t H1 locs ht hvm hw hB hz1 hk1 hS => ?_)
        obtain ⟨v2, v3, v4⟩ := u
        obtain ⟨hP1, hK1, hD1⟩ := hB
        rw [ht] at hP1
        have hK1 := va_K.moved hvm.symm hK1
        obtain ⟨hP, hD⟩ := va_join (wr := [(h0, .inr (3, [.long w0_low, .long w0_middle, .long w0_high])), (h1, .inr (3, [.long w1_low, .long w1_middle, .long w1_high]))]) (w1 := [(h2, .inr (3, [.long v2, .long v3, .long v4]))]) hP hD [2] [0, 1] rfl rfl (by decide) (by decide) hk1 hFc hP1 hD1
        generalize H1 = H at hP hS ⊢
        have hP : va_P (dC, dI) vwCl [(h0, .inr (3, [.long w0_low, .long w0_middle, .long w0_high])), (h1, .inr (3, [.long w1_low, .long w1_middle, .long w1_high])), (h2, .inr (3, [.long v2, .long v3, .long v4]))] H := hP
        have hD : va_D A [(h0, .inr (3, [.long w0_low, .long w0_middle, .long w0_high])), (h1, .inr (3, [.long w1_low, .long w1_middle, .long w1_high])), (h2, .inr (3, [.long v2, .long v3, .long v4]))] := hD
        refine lv_aload_n hx hb px_d330_69 rfl (lv_at hl 0 rfl) ?_
        refine lv_iconst (v := 0) hx hb px_d330_70 (by decide) ?_
        have hPc := hP.sub (ws' := [(h0, .inr (3, [.long w0_low, .long w0_middle, .long w0_high]))]) [0] rfl
        have hDc := hD.sub (ws' := [(h0, .inr (3, [.long w0_low, .long w0_middle, .long w0_high]))]) [0] (by decide) rfl
        have hKc := hK.sub (tys' := []) [] rfl
        have hFc := va_free (wc := [(h0, .inr (3, [.long w0_low, .long w0_middle, .long w0_high]))]) hD hS hA [0] rfl
        refine va_callv (va_runV (As := [.int 0]) (rest := []) ⟨hx, hb, hml, hown, htw⟩ (w329_met l dC dI H.size h0 0 w0_low w0_middle w0_high _ hw) (cwV 1 htw (px_gv px_w1611 px_w1641 px_w1642 px_w41 px_g329) rfl rfl rfl (by decide +kernel) ⟨Nat.le_of_ble_eq_true rfl, Nat.le_of_ble_eq_true rfl⟩) ⟨fun a U g mk q => by obtain ⟨q0, q1, qP, qK, qD, qN⟩ := q; exact ⟨q0, q1, qP, va_K.moved (u := U) (U := U.calling g mk a) (Vm.Alike.refl U.vm) qK, qD, qN.same rfl⟩, va_recv hK hP (ci := 3) (q0 := 0) rfl rfl, fun U hU hW => ⟨rfl, by rw [hU], by rw [hU]; exact hPc, va_K.moved hW.alike hKc, hDc.weaken (fun _ _ _ _ => trivial), hN.warm hW⟩⟩ rfl rfl hl.1 rfl (lv_room (Nat.le_of_ble_eq_true rfl)) px_d330_71 ⟨(Nat.le_of_ble_eq_true rfl), (Nat.le_of_ble_eq_true rfl)⟩) hS (fun q _ h => hFc q h) hFc (fun u t H1 locs ht hvm hw hB hz1 hk1 hS => ?_)
        obtain ⟨v5, v6, v7⟩ := u
        obtain ⟨hP1, hK1, hD1⟩ := hB
        rw [ht] at hP1
        have hK1 := va_K.moved hvm.symm hK1
        obtain ⟨hP, hD⟩ := va_join (wr := [(h1, .inr (3, [.long w1_low, .long w1_middle, .long w1_high])), (h2, .inr (3, [.long v2, .long v3, .long v4]))]) (w1 := [(h0, .inr (3, [.long v5, .long v6, .long v7]))]) hP hD [0] [1, 2] rfl rfl (by decide) (by decide) hk1 hFc hP1 hD1
        generalize H1 = H at hP hS ⊢
        have hP : va_P (dC, dI) vwCl [(h1, .inr (3, [.long w1_low, .long w1_middle, .long w1_high])), (h2, .inr (3, [.long v2, .long v3, .long v4])), (h0, .inr (3, [.long v5, .long v6, .long v7]))] H := hP
        have hD : va_D A [(h1, .inr (3, [.long w1_low, .long w1_middle, .long w1_high])), (h2, .inr (3, [.long v2, .long v3, .long v4])), (h0, .inr (3, [.long v5, .long v6, .long v7]))] := hD
        have hP := hP.sub (ws' := [(h0, .inr (3, [.long v5, .long v6, .long v7])), (h1, .inr (3, [.long w1_low, .long w1_middle, .long w1_high])), (h2, .inr (3, [.long v2, .long v3, .long v4]))]) [2, 0, 1] rfl
        have hD := hD.sub (ws' := [(h0, .inr (3, [.long v5, .long v6, .long v7])), (h1, .inr (3, [.long w1_low, .long w1_middle, .long w1_high])), (h2, .inr (3, [.long v2, .long v3, .long v4]))]) [2, 0, 1] (by decide) rfl
        refine lv_aload_n hx hb px_d330_74 rfl (lv_at hl 0 rfl) ?_
        refine lv_dup hx hb px_d330_75 rfl ?_
        refine va_get (D := (dC, dI)) (ci := 3) (v := .long v7) (C := "MatroidDesk$Wide") (T := px_T3) (N := 3) hx hb htw px_in3 hown hK hP 0 rfl rfl 2 (by decide) (htw _ px_w1595) (fun _ h9 => h9) rfl px_d330_76 ?_
        refine lv_ldc2 hx hb (own := "MatroidDesk$Wide") (index := 9) (v := 281474976710655) hown (htw _ px_w1592) px_d330_79 ?_
        refine lv_land hx hb px_d330_82 ?_
        refine lv_topl (fun z8 ez8 => ?_)
        have hw := hw z8 ez8
        refine va_put (D := (dC, dI)) (ci := 3) (v := .long z8) (ty := .long) (C := "MatroidDesk$Wide") (T := px_T3) (N := 3) hx hb htw px_in3 px_ty3 px_tyok3 px_nm3 hown hK hP hD hS 0 rfl rfl 2 (by decide) (htw _ px_w1595) (fun _ h9 => h9) rfl (by decide +kernel) rfl rfl (Nat.le_of_ble_eq_true rfl) px_d330_83 (fun H locs hP hD hS => ?_)
        have hP : va_P (dC, dI) vwCl [(h0, .inr (3, [.long v5, .long v6, .long z8])), (h1, .inr (3, [.long w1_low, .long w1_middle, .long w1_high])), (h2, .inr (3, [.long v2, .long v3, .long v4]))] H := hP
        have hD : va_D A [(h0, .inr (3, [.long v5, .long v6, .long z8])), (h1, .inr (3, [.long w1_low, .long w1_middle, .long w1_high])), (h2, .inr (3, [.long v2, .long v3, .long v4]))] := hD
        refine lv_aload_n hx hb px_d330_86 rfl (lv_at hl 2 rfl) ?_
        refine lv_aload_n hx hb px_d330_87 rfl (lv_at hl 1 rfl) ?_
        have hPc := hP.sub (ws' := [(h2, .inr (3, [.long v2, .long v3, .long v4])), (h1, .inr (3, [.long w1_low, .long w1_middle, .long w1_high]))]) [2, 1] rfl
        have hDc := hD.sub (ws' := [(h2, .inr (3, [.long v2, .long v3, .long v4])), (h1, .inr (3, [.long w1_low, .long w1_middle, .long w1_high]))]) [2, 1] (by decide) rfl
        have hKc := hK.sub (tys' := []) [] rfl
        have hFc := va_free (wc := [(h2, .inr (3, [.long v2, .long v3, .long v4])), (h1, .inr (3, [.long w1_low, .long w1_middle, .long w1_high]))]) hD hS hA [2, 1] rfl
        refine va_calli (va_runV (As := [.ref h1]) (rest := []) ⟨hx, hb, hml, hown, htw⟩ (w325_met l dC dI H.size h2 h1 v2 v3 v4 w1_low w1_middle w1_high _ hw) (cwV 1 htw (px_gv px_w1608 px_w1629 px_w1630 px_w41 px_g325) rfl rfl rfl (by decide +kernel) ⟨Nat.le_of_ble_eq_true rfl, Nat.le_of_ble_eq_true rfl⟩) ⟨fun a U g mk q => by obtain ⟨q0, q1, qP, qK, qD, qN⟩ := q; exact ⟨q0, q1, qP, va_K.moved (u := U) (U := U.calling g mk a) (Vm.Alike.refl U.vm) qK, qD, qN.same rfl⟩, va_recv hK hP (ci := 3) (q0 := 2) rfl rfl, fun U hU hW => ⟨rfl, by rw [hU], by rw [hU]; exact hPc, va_K.moved hW.alike hKc, hDc.weaken (fun _ _ _ _ => trivial), hN.warm hW⟩⟩ rfl rfl hl.1 rfl (lv_room (Nat.le_of_ble_eq_true rfl)) px_d330_88 ⟨(Nat.le_of_ble_eq_true rfl), (Nat.le_of_ble_eq_true rfl)⟩) hS (fun q _ h => hFc q h) hFc (fun r88 u t H1 locs ht hvm hw hB hz1 hk1 hS => ?_)
        obtain ⟨v9, v10, v11, v12, v13, v14⟩ := u
        obtain ⟨hP1, hK1, hD1⟩ := hB
        rw [ht] at hP1
        have hK1 := va_K.moved hvm.symm hK1
        obtain ⟨hP, hD⟩ := va_join (wr := [(h0, .inr (3, [.long v5, .long v6, .long z8]))]) (w1 := [(h2, .inr (3, [.long v9, .long v10, .long v11])), (h1, .inr (3, [.long v12, .long v13, .long v14]))]) hP hD [2, 1] [0] rfl rfl (by decide) (by decide) hk1 hFc hP1 hD1
        generalize H1 = H at hP hS ⊢
        have hP : va_P (dC, dI) vwCl [(h0, .inr (3, [.long v5, .long v6, .long z8])), (h2, .inr (3, [.long v9, .long v10, .long v11])), (h1, .inr (3, [.long v12, .long v13, .long v14]))] H := hP
        have hD : va_D A [(h0, .inr (3, [.long v5, .long v6, .long z8])), (h2, .inr (3, [.long v9, .long v10, .long v11])), (h1, .inr (3, [.long v12, .long v13, .long v14]))] := hD
        have hP := hP.sub (ws' := [(h0, .inr (3, [.long v5, .long v6, .long z8])), (h1, .inr (3, [.long v12, .long v13, .long v14])), (h2, .inr (3, [.long v9, .long v10, .long v11]))]) [0, 2, 1] rfl
        have hD := hD.sub (ws' := [(h0, .inr (3, [.long v5, .long v6, .long z8])), (h1, .inr (3, [.long v12, .long v13, .long v14])), (h2, .inr (3, [.long v9, .long v10, .long v11]))]) [0, 2, 1] (by decide) rfl
        refine lv_if_lt (tgt := 109) hx hb px_d330_91 (by decide) (fun c91 => ?_) (fun c91 => ?_)
        · have hw := hw.1 c91
          exact S109 x3 v5 v6 z8 v12 v13 v14 v9 v10 v11 H locs ls hP hD hS (lv_sub hl [0, 1, 2, 3] rfl) hw
        · have hw := hw.2 c91
          refine lv_aload_n hx hb px_d330_94 rfl (lv_at hl 2 rfl) ?_
          refine lv_aload_n hx hb px_d330_95 rfl (lv_at hl 1 rfl) ?_
          have hPc := hP.sub (ws' := [(h2, .inr (3, [.long v9, .long v10, .long v11])), (h1, .inr (3, [.long v12, .long v13, .long v14]))]) [2, 1] rfl
          have hDc := hD.sub (ws' := [(h2, .inr (3, [.long v9, .long v10, .long v11])), (h1, .inr (3, [.long v12, .long v13, .long v14]))]) [2, 1] (by decide) rfl
          have hKc := hK.sub (tys' := []) [] rfl
          have hFc := va_free (wc := [(h2, .inr (3, [.long v9, .long v10, .long v11])), (h1, .inr (3, [.long v12, .long v13, .long v14]))]) hD hS hA [2, 1] rfl
          refine va_callv (va_runV (As := [.ref h1]) (rest := []) ⟨hx, hb, hml, hown, htw⟩ (w328_met l dC dI H.size h2 h1 v9 v10 v11 v12 v13 v14 _ hw) (cwV 1 htw (px_gv px_w1610 px_w1638 px_w1639 px_w41 px_g328) rfl rfl rfl (by decide +kernel) ⟨Nat.le_of_ble_eq_true rfl, Nat.le_of_ble_eq_true rfl⟩) ⟨fun a U g mk q => by obtain ⟨q0, q1, qP, qK, qD, qN⟩ := q; exact ⟨q0, q1, qP, va_K.moved (u := U) (U := U.calling g mk a) (Vm.Alike.refl U.vm) qK, qD, qN.same rfl⟩, va_recv hK hP (ci := 3) (q0 := 2) rfl rfl, fun U hU hW => ⟨rfl, by rw [hU], by rw [hU]; exact hPc, va_K.moved hW.alike hKc, hDc.weaken (fun _ _ _ _ => trivial), hN.warm hW⟩⟩ rfl rfl hl.1 rfl (lv_room (Nat.le_of_ble_eq_true rfl)) px_d330_96 ⟨(Nat.le_of_ble_eq_true rfl), (Nat.le_of_ble_eq_true rfl)⟩) hS (fun q _ h => hFc q h) hFc (fun u t H1 locs ht hvm hw hB hz1 hk1 hS => ?_)
          obtain ⟨v15, v16, v17, v18, v19, v20⟩ := u
          obtain ⟨hP1, hK1, hD1⟩ := hB
          rw [ht] at hP1
          have hK1 := va_K.moved hvm.symm hK1
          obtain ⟨hP, hD⟩ := va_join (wr := [(h0, .inr (3, [.long v5, .long v6, .long z8]))]) (w1 := [(h2, .inr (3, [.long v15, .long v16, .long v17])), (h1, .inr (3, [.long v18, .long v19, .long v20]))]) hP hD [2, 1] [0] rfl rfl (by decide) (by decide) hk1 hFc hP1 hD1
          generalize H1 = H at hP hS ⊢
          have hP : va_P (dC, dI) vwCl [(h0, .inr (3, [.long v5, .long v6, .long z8])), (h2, .inr (3, [.long v15, .long v16, .long v17])), (h1, .inr (3, [.long v18, .long v19, .long v20]))] H := hP
          have hD : va_D A [(h0, .inr (3, [.long v5, .long v6, .long z8])), (h2, .inr (3, [.long v15, .long v16, .long v17])), (h1, .inr (3, [.long v18, .long v19, .long v20]))] := hD
          have hP := hP.sub (ws' := [(h0, .inr (3, [.long v5, .long v6, .long z8])), (h1, .inr (3, [.long v18, .long v19, .long v20])), (h2, .inr (3, [.long v15, .long v16, .long v17]))]) [0, 2, 1] rfl
          have hD := hD.sub (ws' := [(h0, .inr (3, [.long v5, .long v6, .long z8])), (h1, .inr (3, [.long v18, .long v19, .long v20])), (h2, .inr (3, [.long v15, .long v16, .long v17]))]) [0, 2, 1] (by decide) rfl
          refine lv_aload_n hx hb px_d330_99 rfl (lv_at hl 0 rfl) ?_
          refine lv_dup hx hb px_d330_100 rfl ?_
          refine va_get (D := (dC, dI)) (ci := 3) (v := .long v5) (C := "MatroidDesk$Wide") (T := px_T3) (N := 3) hx hb htw px_in3 hown hK hP 0 rfl rfl 0 (by decide) (htw _ px_w1593) (fun _ h9 => h9) rfl px_d330_101 ?_
          refine lv_lconst (v := 1) hx hb px_d330_104 (by decide) ?_
          refine lv_lor hx hb px_d330_105 ?_
          refine lv_topl (fun z21 ez21 => ?_)
          have hw := hw z21 ez21
          refine va_put (D := (dC, dI)) (ci := 3) (v := .long z21) (ty := .long) (C := "MatroidDesk$Wide") (T := px_T3) (N := 3) hx hb htw px_in3 px_ty3 px_tyok3 px_nm3 hown hK hP hD hS 0 rfl rfl 0 (by decide) (htw _ px_w1593) (fun _ h9 => h9) rfl (by decide +kernel) rfl rfl (Nat.le_of_ble_eq_true rfl) px_d330_106 (fun H locs hP hD hS => ?_)
          have hP : va_P (dC, dI) vwCl [(h0, .inr (3, [.long z21, .long v6, .long z8])), (h1, .inr (3, [.long v18, .long v19, .long v20])), (h2, .inr (3, [.long v15, .long v16, .long v17]))] H := hP
          have hD : va_D A [(h0, .inr (3, [.long z21, .long v6, .long z8])), (h1, .inr (3, [.long v18, .long v19, .long v20])), (h2, .inr (3, [.long v15, .long v16, .long v17]))] := hD
          exact S109 x3 z21 v6 z8 v18 v19 v20 v15 v16 v17 H locs ls hP hD hS (lv_sub hl [0, 1, 2, 3] rfl) hw
  have S38 : ∀ (w0_low : Int64) (w0_middle : Int64) (w0_high : Int64) (w1_low : Int64) (w1_middle : Int64) (w1_high : Int64) (w2_low : Int64) (w2_middle : Int64) (w2_high : Int64) (H : Heap) (locs : List Loc) (ls : Array Slot), va_P (dC, dI) vwCl [(h0, .inr (3, [.long w0_low, .long w0_middle, .long w0_high])), (h1, .inr (3, [.long w1_low, .long w1_middle, .long w1_high])), (h2, .inr (3, [.long w2_low, .long w2_middle, .long w2_high]))] H → va_D A [(h0, .inr (3, [.long w0_low, .long w0_middle, .long w0_high])), (h1, .inr (3, [.long w1_low, .long w1_middle, .long w1_high])), (h2, .inr (3, [.long w2_low, .long w2_middle, .long w2_high]))] → va_S A s.heap H locs → lv_has ls 4 [(0, .ref h0), (1, .ref h1), (2, .ref h2)] → w330_L38 post w0_low w0_middle w0_high w1_low w1_middle w1_high w2_low w2_middle w2_high → W p l e (headSpec px_s330 ({ frames := 2, cells := 0, slots := 0, locals := 44 })).room s m ([.ref h0, .ref h1, .ref h2]).toArray below meth c H locs 0 0 Q (F0 m 38 ls []) := by
    intro w0_low w0_middle w0_high w1_low w1_middle w1_high w2_low w2_middle w2_high H locs ls hP hD hS hl hw
    unfold w330_L38 at hw
    refine lv_aload_n hx hb px_d330_38 rfl (lv_at hl 2 rfl) ?_
    refine lv_lconst (v := 0) hx hb px_d330_39 (by decide) ?_
    refine lv_lconst (v := 0) hx hb px_d330_40 (by decide) ?_
    refine lv_lconst (v := 0) hx hb px_d330_41 (by decide) ?_
    have hPc := hP.sub (ws' := [(h2, .inr (3, [.long w2_low, .long w2_middle, .long w2_high]))]) [2] rfl
    have hDc := hD.sub (ws' := [(h2, .inr (3, [.long w2_low, .long w2_middle, .long w2_high]))]) [2] (by decide) rfl
    have hKc := hK.sub (tys' := []) [] rfl
    have hFc := va_free (wc := [(h2, .inr (3, [.long w2_low, .long w2_middle, .long w2_high]))]) hD hS hA [2] rfl
    refine va_calli (va_runV (As := [.long 0, .long 0, .long 0]) (rest := []) ⟨hx, hb, hml, hown, htw⟩ (w317_met l dC dI H.size h2 0 0 0 w2_low w2_middle w2_high _ hw) (cwV 3 htw (px_gv px_w1621 px_w1590 px_w1591 px_w41 px_g317) rfl rfl rfl (by decide +kernel) ⟨Nat.le_of_ble_eq_true rfl, Nat.le_of_ble_eq_true rfl⟩) ⟨fun a U g mk q => by obtain ⟨q0, q1, qP, qK, qD, qN⟩ := q; exact ⟨q0, q1, qP, va_K.moved (u := U) (U := U.calling g mk a) (Vm.Alike.refl U.vm) qK, qD, qN.same rfl⟩, va_recv hK hP (ci := 3) (q0 := 2) rfl rfl, fun U hU hW => ⟨rfl, by rw [hU], by rw [hU]; exact hPc, va_K.moved hW.alike hKc, hDc.weaken (fun _ _ _ _ => trivial), hN.warm hW⟩⟩ rfl rfl hl.1 rfl (lv_room (Nat.le_of_ble_eq_true rfl)) px_d330_42 ⟨(Nat.le_of_ble_eq_true rfl), (Nat.le_of_ble_eq_true rfl)⟩) hS (fun q _ h => hFc q h) hFc (fun r42 u t H1 locs ht hvm hw hB hz1 hk1 hS => ?_)
    obtain ⟨v22, v23, v24⟩ := u
    obtain ⟨hP1, hK1, hD1⟩ := hB
    rw [ht] at hP1
    have hK1 := va_K.moved hvm.symm hK1
    obtain ⟨hP, hD⟩ := va_join (wr := [(h0, .inr (3, [.long w0_low, .long w0_middle, .long w0_high])), (h1, .inr (3, [.long w1_low, .long w1_middle, .long w1_high]))]) (w1 := [(h2, .inr (3, [.long v22, .long v23, .long v24]))]) hP hD [2] [0, 1] rfl rfl (by decide) (by decide) hk1 hFc hP1 hD1
    generalize H1 = H at hP hS ⊢
    have hP : va_P (dC, dI) vwCl [(h0, .inr (3, [.long w0_low, .long w0_middle, .long w0_high])), (h1, .inr (3, [.long w1_low, .long w1_middle, .long w1_high])), (h2, .inr (3, [.long v22, .long v23, .long v24]))] H := hP
    have hD : va_D A [(h0, .inr (3, [.long w0_low, .long w0_middle, .long w0_high])), (h1, .inr (3, [.long w1_low, .long w1_middle, .long w1_high])), (h2, .inr (3, [.long v22, .long v23, .long v24]))] := hD
    refine lv_pop hx hb px_d330_45 rfl ?_
    refine lv_iconst (v := 0) hx hb px_d330_46 (by decide) ?_
    refine lv_istore_n (lv' := [(3, .int 0), (0, .ref h0), (1, .ref h1), (2, .ref h2)]) hx hb px_d330_47 rfl hl (by decide) rfl (fun ls hl => ?_)
    obtain ⟨k9, hw⟩ := hw
    exact S48 k9 0 w0_low w0_middle w0_high w1_low w1_middle w1_high v22 v23 v24 H locs ls hP hD hS (lv_sub hl [1, 2, 3, 0] rfl) hw
  unfold w330_wp at hw
  have hS0 := hS
  obtain ⟨H, hH9⟩ : ∃ z, z = s.heap := ⟨_, rfl⟩
  have hP : va_P (dC, dI) vwCl [(h0, .inr (3, [.long w0_low, .long w0_middle, .long w0_high])), (h1, .inr (3, [.long w1_low, .long w1_middle, .long w1_high])), (h2, .inr (3, [.long w2_low, .long w2_middle, .long w2_high]))] H := by rw [hH9]; exact hP
  obtain ⟨locs, hlo9⟩ : ∃ z : List Loc, z = [] := ⟨_, rfl⟩
  have hS : va_S A s.heap H locs := by rw [hH9, hlo9]; exact hS
  suffices hG : W p l e (headSpec px_s330 ({ frames := 2, cells := 0, slots := 0, locals := 44 })).room s m ([.ref h0, .ref h1, .ref h2]).toArray below meth c H locs 0 0 Q (F0 m 0 ls []) by rw [hH9, hlo9] at hG; exact hG
  refine lv_aload_n hx hb px_d330_0 rfl (lv_at hl 0 rfl) ?_
  have hPc := hP.sub (ws' := [(h0, .inr (3, [.long w0_low, .long w0_middle, .long w0_high]))]) [0] rfl
  have hDc := hD.sub (ws' := [(h0, .inr (3, [.long w0_low, .long w0_middle, .long w0_high]))]) [0] (by decide) rfl
  have hKc := hK.sub (tys' := []) [] rfl
  have hFc := va_free (wc := [(h0, .inr (3, [.long w0_low, .long w0_middle, .long w0_high]))]) hD hS hA [0] rfl
  refine va_calli (va_runV (As := []) (rest := []) ⟨hx, hb, hml, hown, htw⟩ (w320_met l dC dI H.size h0 w0_low w0_middle w0_high _ hw) (cwV 0 htw (px_gv px_w1602 px_w1613 px_w1614 px_w41 px_g320) rfl rfl rfl (by decide +kernel) ⟨Nat.le_of_ble_eq_true rfl, Nat.le_of_ble_eq_true rfl⟩) ⟨fun a U g mk q => by obtain ⟨q0, q1, qP, qK, qD, qN⟩ := q; exact ⟨q0, q1, qP, va_K.moved (u := U) (U := U.calling g mk a) (Vm.Alike.refl U.vm) qK, qD, qN.same rfl⟩, va_recv hK hP (ci := 3) (q0 := 0) rfl rfl, fun U hU hW => ⟨rfl, by rw [hU], by rw [hU]; exact hPc, va_K.moved hW.alike hKc, hDc.weaken (fun _ _ _ _ => trivial), hN.warm hW⟩⟩ rfl rfl hl.1 rfl (lv_room (Nat.le_of_ble_eq_true rfl)) px_d330_1 ⟨(Nat.le_of_ble_eq_true rfl), (Nat.le_of_ble_eq_true rfl)⟩) hS (fun q _ h => hFc q h) hFc (fun r1 u t H1 locs ht hvm hw hB hz1 hk1 hS => ?_)
  obtain ⟨v25, v26, v27⟩ := u
  obtain ⟨hP1, hK1, hD1⟩ := hB
  rw [ht] at hP1
  have hK1 := va_K.moved hvm.symm hK1
  obtain ⟨hP, hD⟩ := va_join (wr := [(h1, .inr (3, [.long w1_low, .long w1_middle, .long w1_high])), (h2, .inr (3, [.long w2_low, .long w2_middle, .long w2_high]))]) (w1 := [(h0, .inr (3, [.long v25, .long v26, .long v27]))]) hP hD [0] [1, 2] rfl rfl (by decide) (by decide) hk1 hFc hP1 hD1
  generalize H1 = H at hP hS ⊢
  have hP : va_P (dC, dI) vwCl [(h1, .inr (3, [.long w1_low, .long w1_middle, .long w1_high])), (h2, .inr (3, [.long w2_low, .long w2_middle, .long w2_high])), (h0, .inr (3, [.long v25, .long v26, .long v27]))] H := hP
  have hD : va_D A [(h1, .inr (3, [.long w1_low, .long w1_middle, .long w1_high])), (h2, .inr (3, [.long w2_low, .long w2_middle, .long w2_high])), (h0, .inr (3, [.long v25, .long v26, .long v27]))] := hD
  have hP := hP.sub (ws' := [(h0, .inr (3, [.long v25, .long v26, .long v27])), (h1, .inr (3, [.long w1_low, .long w1_middle, .long w1_high])), (h2, .inr (3, [.long w2_low, .long w2_middle, .long w2_high]))]) [2, 0, 1] rfl
  have hD := hD.sub (ws' := [(h0, .inr (3, [.long v25, .long v26, .long v27])), (h1, .inr (3, [.long w1_low, .long w1_middle, .long w1_high])), (h2, .inr (3, [.long w2_low, .long w2_middle, .long w2_high]))]) [2, 0, 1] (by decide) rfl
  refine lv_if_eq (tgt := 38) hx hb px_d330_4 (by decide) (fun c4 => ?_) (fun c4 => ?_)
  · have hw := hw.1 c4
    exact S38 v25 v26 v27 w1_low w1_middle w1_high w2_low w2_middle w2_high H locs ls hP hD hS (lv_sub hl [0, 1, 2] rfl) hw
  · have hw := hw.2 c4
    refine lv_aload_n hx hb px_d330_7 rfl (lv_at hl 1 rfl) ?_
    have hPc := hP.sub (ws' := [(h1, .inr (3, [.long w1_low, .long w1_middle, .long w1_high]))]) [1] rfl
    have hDc := hD.sub (ws' := [(h1, .inr (3, [.long w1_low, .long w1_middle, .long w1_high]))]) [1] (by decide) rfl
    have hKc := hK.sub (tys' := []) [] rfl
    have hFc := va_free (wc := [(h1, .inr (3, [.long w1_low, .long w1_middle, .long w1_high]))]) hD hS hA [1] rfl
    refine va_calli (va_runV (As := []) (rest := []) ⟨hx, hb, hml, hown, htw⟩ (w320_met l dC dI H.size h1 w1_low w1_middle w1_high _ hw) (cwV 0 htw (px_gv px_w1602 px_w1613 px_w1614 px_w41 px_g320) rfl rfl rfl (by decide +kernel) ⟨Nat.le_of_ble_eq_true rfl, Nat.le_of_ble_eq_true rfl⟩) ⟨fun a U g mk q => by obtain ⟨q0, q1, qP, qK, qD, qN⟩ := q; exact ⟨q0, q1, qP, va_K.moved (u := U) (U := U.calling g mk a) (Vm.Alike.refl U.vm) qK, qD, qN.same rfl⟩, va_recv hK hP (ci := 3) (q0 := 1) rfl rfl, fun U hU hW => ⟨rfl, by rw [hU], by rw [hU]; exact hPc, va_K.moved hW.alike hKc, hDc.weaken (fun _ _ _ _ => trivial), hN.warm hW⟩⟩ rfl rfl hl.1 rfl (lv_room (Nat.le_of_ble_eq_true rfl)) px_d330_8 ⟨(Nat.le_of_ble_eq_true rfl), (Nat.le_of_ble_eq_true rfl)⟩) hS (fun q _ h => hFc q h) hFc (fun r8 u t H1 locs ht hvm hw hB hz1 hk1 hS => ?_)
    obtain ⟨v28, v29, v30⟩ := u
    obtain ⟨hP1, hK1, hD1⟩ := hB
    rw [ht] at hP1
    have hK1 := va_K.moved hvm.symm hK1
    obtain ⟨hP, hD⟩ := va_join (wr := [(h0, .inr (3, [.long v25, .long v26, .long v27])), (h2, .inr (3, [.long w2_low, .long w2_middle, .long w2_high]))]) (w1 := [(h1, .inr (3, [.long v28, .long v29, .long v30]))]) hP hD [1] [0, 2] rfl rfl (by decide) (by decide) hk1 hFc hP1 hD1
    generalize H1 = H at hP hS ⊢
    have hP : va_P (dC, dI) vwCl [(h0, .inr (3, [.long v25, .long v26, .long v27])), (h2, .inr (3, [.long w2_low, .long w2_middle, .long w2_high])), (h1, .inr (3, [.long v28, .long v29, .long v30]))] H := hP
    have hD : va_D A [(h0, .inr (3, [.long v25, .long v26, .long v27])), (h2, .inr (3, [.long w2_low, .long w2_middle, .long w2_high])), (h1, .inr (3, [.long v28, .long v29, .long v30]))] := hD
    have hP := hP.sub (ws' := [(h0, .inr (3, [.long v25, .long v26, .long v27])), (h1, .inr (3, [.long v28, .long v29, .long v30])), (h2, .inr (3, [.long w2_low, .long w2_middle, .long w2_high]))]) [0, 2, 1] rfl
    have hD := hD.sub (ws' := [(h0, .inr (3, [.long v25, .long v26, .long v27])), (h1, .inr (3, [.long v28, .long v29, .long v30])), (h2, .inr (3, [.long w2_low, .long w2_middle, .long w2_high]))]) [0, 2, 1] (by decide) rfl
    refine lv_if_eq (tgt := 38) hx hb px_d330_11 (by decide) (fun c11 => ?_) (fun c11 => ?_)
    · have hw := hw.1 c11
      exact S38 v25 v26 v27 v28 v29 v30 w2_low w2_middle w2_high H locs ls hP hD hS (lv_sub hl [0, 1, 2] rfl) hw
    · have hw := hw.2 c11
      refine lv_aload_n hx hb px_d330_14 rfl (lv_at hl 1 rfl) ?_
      have hPc := hP.sub (ws' := [(h1, .inr (3, [.long v28, .long v29, .long v30]))]) [1] rfl
      have hDc := hD.sub (ws' := [(h1, .inr (3, [.long v28, .long v29, .long v30]))]) [1] (by decide) rfl
      have hKc := hK.sub (tys' := []) [] rfl
      have hFc := va_free (wc := [(h1, .inr (3, [.long v28, .long v29, .long v30]))]) hD hS hA [1] rfl
      refine va_calli (va_runV (As := []) (rest := []) ⟨hx, hb, hml, hown, htw⟩ (w318_met l dC dI H.size h1 v28 v29 v30 _ hw) (cwV 0 htw (px_gv px_w1606 px_w1597 px_w1598 px_w41 px_g318) rfl rfl rfl (by decide +kernel) ⟨Nat.le_of_ble_eq_true rfl, Nat.le_of_ble_eq_true rfl⟩) ⟨fun a U g mk q => by obtain ⟨q0, q1, qP, qK, qD, qN⟩ := q; exact ⟨q0, q1, qP, va_K.moved (u := U) (U := U.calling g mk a) (Vm.Alike.refl U.vm) qK, qD, qN.same rfl⟩, va_recv hK hP (ci := 3) (q0 := 1) rfl rfl, fun U hU hW => ⟨rfl, by rw [hU], by rw [hU]; exact hPc, va_K.moved hW.alike hKc, hDc.weaken (fun _ _ _ _ => trivial), hN.warm hW⟩⟩ rfl rfl hl.1 rfl (lv_room (Nat.le_of_ble_eq_true rfl)) px_d330_15 ⟨(Nat.le_of_ble_eq_true rfl), (Nat.le_of_ble_eq_true rfl)⟩) hS (fun q _ h => hFc q h) hFc (fun r15 u t H1 locs ht hvm hw hB hz1 hk1 hS => ?_)
      obtain ⟨v31, v32, v33⟩ := u
      obtain ⟨hP1, hK1, hD1⟩ := hB
      rw [ht] at hP1
      have hK1 := va_K.moved hvm.symm hK1
      obtain ⟨hP, hD⟩ := va_join (wr := [(h0, .inr (3, [.long v25, .long v26, .long v27])), (h2, .inr (3, [.long w2_low, .long w2_middle, .long w2_high]))]) (w1 := [(h1, .inr (3, [.long v31, .long v32, .long v33]))]) hP hD [1] [0, 2] rfl rfl (by decide) (by decide) hk1 hFc hP1 hD1
      generalize H1 = H at hP hS ⊢
      have hP : va_P (dC, dI) vwCl [(h0, .inr (3, [.long v25, .long v26, .long v27])), (h2, .inr (3, [.long w2_low, .long w2_middle, .long w2_high])), (h1, .inr (3, [.long v31, .long v32, .long v33]))] H := hP
      have hD : va_D A [(h0, .inr (3, [.long v25, .long v26, .long v27])), (h2, .inr (3, [.long w2_low, .long w2_middle, .long w2_high])), (h1, .inr (3, [.long v31, .long v32, .long v33]))] := hD
      have hP := hP.sub (ws' := [(h0, .inr (3, [.long v25, .long v26, .long v27])), (h1, .inr (3, [.long v31, .long v32, .long v33])), (h2, .inr (3, [.long w2_low, .long w2_middle, .long w2_high]))]) [0, 2, 1] rfl
      have hD := hD.sub (ws' := [(h0, .inr (3, [.long v25, .long v26, .long v27])), (h1, .inr (3, [.long v31, .long v32, .long v33])), (h2, .inr (3, [.long w2_low, .long w2_middle, .long w2_high]))]) [0, 2, 1] (by decide) rfl
      refine lv_if_ne (tgt := 38) hx hb px_d330_18 (by decide) (fun c18 => ?_) (fun c18 => ?_)
      · have hw := hw.1 c18
        exact S38 v25 v26 v27 v31 v32 v33 w2_low w2_middle w2_high H locs ls hP hD hS (lv_sub hl [0, 1, 2] rfl) hw
      · have hw := hw.2 c18
        refine lv_aload_n hx hb px_d330_21 rfl (lv_at hl 0 rfl) ?_
        refine lv_aload_n hx hb px_d330_22 rfl (lv_at hl 0 rfl) ?_
        have hPc := hP.sub (ws' := [(h0, .inr (3, [.long v25, .long v26, .long v27]))]) [0] rfl
        have hDc := hD.sub (ws' := [(h0, .inr (3, [.long v25, .long v26, .long v27]))]) [0] (by decide) rfl
        have hKc := hK.sub (tys' := []) [] rfl
        have hFc := va_free (wc := [(h0, .inr (3, [.long v25, .long v26, .long v27]))]) hD hS hA [0] rfl
        refine va_calll (va_runV (As := []) (rest := [.ref h0]) ⟨hx, hb, hml, hown, htw⟩ (w321_met l dC dI H.size h0 v25 v26 v27 _ hw) (cwV 0 htw (px_gv px_w1603 px_w1616 px_w1617 px_w41 px_g321) rfl rfl rfl (by decide +kernel) ⟨Nat.le_of_ble_eq_true rfl, Nat.le_of_ble_eq_true rfl⟩) ⟨fun a U g mk q => by obtain ⟨q0, q1, qP, qK, qD, qN⟩ := q; exact ⟨q0, q1, qP, va_K.moved (u := U) (U := U.calling g mk a) (Vm.Alike.refl U.vm) qK, qD, qN.same rfl⟩, va_recv hK hP (ci := 3) (q0 := 0) rfl rfl, fun U hU hW => ⟨rfl, by rw [hU], by rw [hU]; exact hPc, va_K.moved hW.alike hKc, hDc.weaken (fun _ _ _ _ => trivial), hN.warm hW⟩⟩ rfl rfl hl.1 rfl (lv_room (Nat.le_of_ble_eq_true rfl)) px_d330_23 ⟨(Nat.le_of_ble_eq_true rfl), (Nat.le_of_ble_eq_true rfl)⟩) hS (fun q _ h => hFc q h) hFc (fun r23 u t H1 locs ht hvm hw hB hz1 hk1 hS => ?_)
        obtain ⟨v34, v35, v36⟩ := u
        obtain ⟨hP1, hK1, hD1⟩ := hB
        rw [ht] at hP1
        have hK1 := va_K.moved hvm.symm hK1
        obtain ⟨hP, hD⟩ := va_join (wr := [(h1, .inr (3, [.long v31, .long v32, .long v33])), (h2, .inr (3, [.long w2_low, .long w2_middle, .long w2_high]))]) (w1 := [(h0, .inr (3, [.long v34, .long v35, .long v36]))]) hP hD [0] [1, 2] rfl rfl (by decide) (by decide) hk1 hFc hP1 hD1
        generalize H1 = H at hP hS ⊢
        have hP : va_P (dC, dI) vwCl [(h1, .inr (3, [.long v31, .long v32, .long v33])), (h2, .inr (3, [.long w2_low, .long w2_middle, .long w2_high])), (h0, .inr (3, [.long v34, .long v35, .long v36]))] H := hP
        have hD : va_D A [(h1, .inr (3, [.long v31, .long v32, .long v33])), (h2, .inr (3, [.long w2_low, .long w2_middle, .long w2_high])), (h0, .inr (3, [.long v34, .long v35, .long v36]))] := hD
        have hP := hP.sub (ws' := [(h0, .inr (3, [.long v34, .long v35, .long v36])), (h1, .inr (3, [.long v31, .long v32, .long v33])), (h2, .inr (3, [.long w2_low, .long w2_middle, .long w2_high]))]) [2, 0, 1] rfl
        have hD := hD.sub (ws' := [(h0, .inr (3, [.long v34, .long v35, .long v36])), (h1, .inr (3, [.long v31, .long v32, .long v33])), (h2, .inr (3, [.long w2_low, .long w2_middle, .long w2_high]))]) [2, 0, 1] (by decide) rfl
        refine lv_aload_n hx hb px_d330_26 rfl (lv_at hl 1 rfl) ?_
        have hPc := hP.sub (ws' := [(h1, .inr (3, [.long v31, .long v32, .long v33]))]) [1] rfl
        have hDc := hD.sub (ws' := [(h1, .inr (3, [.long v31, .long v32, .long v33]))]) [1] (by decide) rfl
        have hKc := hK.sub (tys' := []) [] rfl
        have hFc := va_free (wc := [(h1, .inr (3, [.long v31, .long v32, .long v33]))]) hD hS hA [1] rfl
        refine va_calll (va_runV (As := []) (rest := [.long r23, .ref h0]) ⟨hx, hb, hml, hown, htw⟩ (w321_met l dC dI H.size h1 v31 v32 v33 _ hw) (cwV 0 htw (px_gv px_w1603 px_w1616 px_w1617 px_w41 px_g321) rfl rfl rfl (by decide +kernel) ⟨Nat.le_of_ble_eq_true rfl, Nat.le_of_ble_eq_true rfl⟩) ⟨fun a U g mk q => by obtain ⟨q0, q1, qP, qK, qD, qN⟩ := q; exact ⟨q0, q1, qP, va_K.moved (u := U) (U := U.calling g mk a) (Vm.Alike.refl U.vm) qK, qD, qN.same rfl⟩, va_recv hK hP (ci := 3) (q0 := 1) rfl rfl, fun U hU hW => ⟨rfl, by rw [hU], by rw [hU]; exact hPc, va_K.moved hW.alike hKc, hDc.weaken (fun _ _ _ _ => trivial), hN.warm hW⟩⟩ rfl rfl hl.1 rfl (lv_room (Nat.le_of_ble_eq_true rfl)) px_d330_27 ⟨(Nat.le_of_ble_eq_true rfl), (Nat.le_of_ble_eq_true rfl)⟩) hS (fun q _ h => hFc q h) hFc (fun r27 u t H1 locs ht hvm hw hB hz1 hk1 hS => ?_)
        obtain ⟨v37, v38, v39⟩ := u
        obtain ⟨hP1, hK1, hD1⟩ := hB
        rw [ht] at hP1
        have hK1 := va_K.moved hvm.symm hK1
        obtain ⟨hP, hD⟩ := va_join (wr := [(h0, .inr (3, [.long v34, .long v35, .long v36])), (h2, .inr (3, [.long w2_low, .long w2_middle, .long w2_high]))]) (w1 := [(h1, .inr (3, [.long v37, .long v38, .long v39]))]) hP hD [1] [0, 2] rfl rfl (by decide) (by decide) hk1 hFc hP1 hD1
        generalize H1 = H at hP hS ⊢
        have hP : va_P (dC, dI) vwCl [(h0, .inr (3, [.long v34, .long v35, .long v36])), (h2, .inr (3, [.long w2_low, .long w2_middle, .long w2_high])), (h1, .inr (3, [.long v37, .long v38, .long v39]))] H := hP
        have hD : va_D A [(h0, .inr (3, [.long v34, .long v35, .long v36])), (h2, .inr (3, [.long w2_low, .long w2_middle, .long w2_high])), (h1, .inr (3, [.long v37, .long v38, .long v39]))] := hD
        have hP := hP.sub (ws' := [(h0, .inr (3, [.long v34, .long v35, .long v36])), (h1, .inr (3, [.long v37, .long v38, .long v39])), (h2, .inr (3, [.long w2_low, .long w2_middle, .long w2_high]))]) [0, 2, 1] rfl
        have hD := hD.sub (ws' := [(h0, .inr (3, [.long v34, .long v35, .long v36])), (h1, .inr (3, [.long v37, .long v38, .long v39])), (h2, .inr (3, [.long w2_low, .long w2_middle, .long w2_high]))]) [0, 2, 1] (by decide) rfl
        obtain ⟨hd30, hw⟩ := hw
        refine lv_ldiv hx hb px_d330_30 hd30 ?_
        refine lv_lconst (v := 0) hx hb px_d330_31 (by decide) ?_
        refine lv_lconst (v := 0) hx hb px_d330_32 (by decide) ?_
        have hPc := hP.sub (ws' := [(h0, .inr (3, [.long v34, .long v35, .long v36]))]) [0] rfl
        have hDc := hD.sub (ws' := [(h0, .inr (3, [.long v34, .long v35, .long v36]))]) [0] (by decide) rfl
        have hKc := hK.sub (tys' := []) [] rfl
        have hFc := va_free (wc := [(h0, .inr (3, [.long v34, .long v35, .long v36]))]) hD hS hA [0] rfl
        refine va_calli (va_runV (As := [.long (r23 / r27), .long 0, .long 0]) (rest := []) ⟨hx, hb, hml, hown, htw⟩ (w317_met l dC dI H.size h0 (r23 / r27) 0 0 v34 v35 v36 _ hw) (cwV 3 htw (px_gv px_w1621 px_w1590 px_w1591 px_w41 px_g317) rfl rfl rfl (by decide +kernel) ⟨Nat.le_of_ble_eq_true rfl, Nat.le_of_ble_eq_true rfl⟩) ⟨fun a U g mk q => by obtain ⟨q0, q1, qP, qK, qD, qN⟩ := q; exact ⟨q0, q1, qP, va_K.moved (u := U) (U := U.calling g mk a) (Vm.Alike.refl U.vm) qK, qD, qN.same rfl⟩, va_recv hK hP (ci := 3) (q0 := 0) rfl rfl, fun U hU hW => ⟨rfl, by rw [hU], by rw [hU]; exact hPc, va_K.moved hW.alike hKc, hDc.weaken (fun _ _ _ _ => trivial), hN.warm hW⟩⟩ rfl rfl hl.1 rfl (lv_room (Nat.le_of_ble_eq_true rfl)) px_d330_33 ⟨(Nat.le_of_ble_eq_true rfl), (Nat.le_of_ble_eq_true rfl)⟩) hS (fun q _ h => hFc q h) hFc (fun r33 u t H1 locs ht hvm hw hB hz1 hk1 hS => ?_)
        obtain ⟨v40, v41, v42⟩ := u
        obtain ⟨hP1, hK1, hD1⟩ := hB
        rw [ht] at hP1
        have hK1 := va_K.moved hvm.symm hK1
        obtain ⟨hP, hD⟩ := va_join (wr := [(h1, .inr (3, [.long v37, .long v38, .long v39])), (h2, .inr (3, [.long w2_low, .long w2_middle, .long w2_high]))]) (w1 := [(h0, .inr (3, [.long v40, .long v41, .long v42]))]) hP hD [0] [1, 2] rfl rfl (by decide) (by decide) hk1 hFc hP1 hD1
        generalize H1 = H at hP hS ⊢
        have hP : va_P (dC, dI) vwCl [(h1, .inr (3, [.long v37, .long v38, .long v39])), (h2, .inr (3, [.long w2_low, .long w2_middle, .long w2_high])), (h0, .inr (3, [.long v40, .long v41, .long v42]))] H := hP
        have hD : va_D A [(h1, .inr (3, [.long v37, .long v38, .long v39])), (h2, .inr (3, [.long w2_low, .long w2_middle, .long w2_high])), (h0, .inr (3, [.long v40, .long v41, .long v42]))] := hD
        have hP := hP.sub (ws' := [(h0, .inr (3, [.long v40, .long v41, .long v42])), (h1, .inr (3, [.long v37, .long v38, .long v39])), (h2, .inr (3, [.long w2_low, .long w2_middle, .long w2_high]))]) [2, 0, 1] rfl
        have hD := hD.sub (ws' := [(h0, .inr (3, [.long v40, .long v41, .long v42])), (h1, .inr (3, [.long v37, .long v38, .long v39])), (h2, .inr (3, [.long w2_low, .long w2_middle, .long w2_high]))]) [2, 0, 1] (by decide) rfl
        refine lv_pop hx hb px_d330_36 rfl ?_
        rw [← hQ]
        exact W.vret hx hb hr (fun t ht hW => ⟨⟨(v40, v41, v42, v37, v38, v39, w2_low, w2_middle, w2_high), rfl, hw, by rw [ht]; exact hP, va_K.moved hW.alike hK, hD⟩, hS.F ht⟩) hS.2.2 px_d330_37

