/-! MatroidDeskModel.shorten(I)V -/
def w54_L118 (post : (Nat → Int32) → (Nat → px_NV) → Prop) (x1 : Int32) (x2 : Int32) (iv : Nat → Int32) (nv : Nat → px_NV) : Prop := post iv nv
def w54_L50 (post : (Nat → Int32) → (Nat → px_NV) → Prop) : Nat → Int32 → Int32 → (Nat → Int32) → (Nat → px_NV) → Prop
  | 0 => fun _ _ _ _ => False
  | k + 1 => fun x1 x2 iv nv => ((iv 11) ≤ x2 → w54_L118 post x1 x2 iv nv) ∧ (¬ (iv 11) ≤ x2 → ((((nv 199).1) ≤ 0 → w54_L118 post x1 x2 iv nv) ∧ (¬ ((nv 199).1) ≤ 0 → px_ix [199] ∧ (no_wp (fun r72 v1 v2 v3 => ∀ nv5 : Nat → px_NV, nv5 = px_fold nv [(199, ⟨v1, v2, v3⟩)] → ((¬ r72 = 0 → w54_L118 post x1 x2 iv nv5) ∧ (r72 = 0 → (w47_wp (fun k85_7 v6 => px_ix [192, k85_7, 199, 193] ∧ (nqu_wp (fun v8 v9 v10 v11 v12 v13 v14 v15 v16 v17 v18 v19 => ∀ nv21 : Nat → px_NV, nv21 = px_fold nv5 [(192, ⟨v8, v9, v10⟩), (k85_7, ⟨v11, v12, v13⟩), (199, ⟨v14, v15, v16⟩), (193, ⟨v17, v18, v19⟩)] → ((w47_wp (fun k102_23 v22 => px_ix [k102_23, 192] ∧ (ncp_wp (fun v24 v25 v26 v27 v28 v29 => ∀ nv31 : Nat → px_NV, nv31 = px_fold nv21 [(k102_23, ⟨v24, v25, v26⟩), (192, ⟨v27, v28, v29⟩)] → (∀ z32 : Int32, z32 = x2 + 1 → (w54_L50 post k) x1 z32 v22 nv31)) ((nv21 k102_23).1) ((nv21 k102_23).2.1) ((nv21 k102_23).2.2) ((nv21 192).1) ((nv21 192).2.1) ((nv21 192).2.2))) x1 x2 v6))) ((nv5 192).1) ((nv5 192).2.1) ((nv5 192).2.2) ((nv5 k85_7).1) ((nv5 k85_7).2.1) ((nv5 k85_7).2.2) ((nv5 199).1) ((nv5 199).2.1) ((nv5 199).2.2) ((nv5 193).1) ((nv5 193).2.1) ((nv5 193).2.2))) x1 x2 iv)))) ((nv 199).1) ((nv 199).2.1) ((nv 199).2.2)))))
def w54_L9 (post : (Nat → Int32) → (Nat → px_NV) → Prop) : Nat → Int32 → Int32 → (Nat → Int32) → (Nat → px_NV) → Prop
  | 0 => fun _ _ _ _ => False
  | k + 1 => fun x1 x2 iv nv => ((iv 11) ≤ x2 → ∃ j50, w54_L50 post j50 x1 0 iv nv) ∧ (¬ (iv 11) ≤ x2 → (w47_wp (fun k25_34 v33 => (w46_wp 199 k25_34 (fun v35 v36 => px_ix [199, 196] ∧ (ncp_wp (fun v38 v39 v40 v41 v42 v43 => ∀ nv45 : Nat → px_NV, nv45 = px_fold v36 [(199, ⟨v38, v39, v40⟩), (196, ⟨v41, v42, v43⟩)] → (∀ z46 : Int32, z46 = x2 + 1 → (w54_L9 post k) x1 z46 v35 nv45)) ((v36 199).1) ((v36 199).2.1) ((v36 199).2.2) ((v36 196).1) ((v36 196).2.1) ((v36 196).2.2))) v33 nv)) x1 x2 iv))
def w54_wp (post : (Nat → Int32) → (Nat → px_NV) → Prop) (a1x : Int32) (iv : Nat → Int32) (nv : Nat → px_NV) : Prop := px_ix [199] ∧ (nz_wp (fun v47 v48 v49 => ∀ nv51 : Nat → px_NV, nv51 = px_fold nv [(199, ⟨v47, v48, v49⟩)] → (∃ j9, w54_L9 post j9 a1x 0 iv nv51)) ((nv 199).1) ((nv 199).2.1) ((nv 199).2.2))
set_option maxHeartbeats 8000000 in
set_option maxRecDepth 100000 in
theorem w54_met (l : Launch) (dC : Nat → ClassId) (dI : Nat → Nat → Nat) (sz : Nat) (h0 : Nat) (rf : Nat → Nat) (hh : Nat → Nat) (qq : Nat → Nat) (cN : ClassId) (c_work : ClassId) (a1x : Int32) (iv : Nat → Int32) (nv : Nat → px_NV) (post : (Nat → Int32) → (Nat → px_NV) → Prop) (hw : w54_wp post a1x iv nv) : Met l px_y54 px_s54 ({ frames := 4, cells := 0, slots := 0, locals := 102 }) (va_Pc [.ref h0, .int a1x] (fun U => U.heap.size = sz ∧ va_P (dC, dI) vwCl (([(h0, .inr (8, px_mf (px_rf hh rf) iv)), ((px_rf hh rf) 8, .inl (c_work, 156, .inr (.inr (.inr (.inr (fun k => some (hh k)))))))] : va_W) ++ px_np hh qq cN nv) U.heap ∧ va_K (dC, dI) vwCl [(c_work, .object "MatroidDeskModel$Num"), (cN, .int)] U ∧ va_D (fun _ => True) (([(h0, .inr (8, px_mf (px_rf hh rf) iv)), ((px_rf hh rf) 8, .inl (c_work, 156, .inr (.inr (.inr (.inr (fun k => some (hh k)))))))] : va_W) ++ px_np hh qq cN nv) ∧ px_N U)) (va_Qv (fun (u : (Nat → Int32) × (Nat → px_NV)) => post u.1 u.2) (fun (u : (Nat → Int32) × (Nat → px_NV)) (t : State) => va_P (dC, dI) vwCl (([(h0, .inr (8, px_mf (px_rf hh rf) u.1)), ((px_rf hh rf) 8, .inl (c_work, 156, .inr (.inr (.inr (.inr (fun k => some (hh k)))))))] : va_W) ++ px_np hh qq cN u.2) t.heap ∧ va_K (dC, dI) vwCl [(c_work, .object "MatroidDeskModel$Num"), (cN, .int)] t ∧ va_D (va_A (([(h0, .inr (8, px_mf (px_rf hh rf) iv)), ((px_rf hh rf) 8, .inl (c_work, 156, .inr (.inr (.inr (.inr (fun k => some (hh k)))))))] : va_W) ++ px_np hh qq cN nv) sz) (([(h0, .inr (8, px_mf (px_rf hh rf) u.1)), ((px_rf hh rf) 8, .inl (c_work, 156, .inr (.inr (.inr (.inr (fun k => some (hh k)))))))] : va_W) ++ px_np hh qq cN u.2)) (va_A (([(h0, .inr (8, px_mf (px_rf hh rf) iv)), ((px_rf hh rf) 8, .inl (c_work, 156, .inr (.inr (.inr (.inr (fun k => some (hh k)))))))] : va_W) ++ px_np hh qq cN nv) sz)) 0 0 (va_A (([(h0, .inr (8, px_mf (px_rf hh rf) iv)), ((px_rf hh rf) 8, .inl (c_work, 156, .inr (.inr (.inr (.inr (fun k => some (hh k)))))))] : va_W) ++ px_np hh qq cN nv) sz) := by
  refine Met.ofW (cc := prog_15_method_9_code) (maxL := 3) (ret := none) (by decide) rfl ?_
  intro p e s m args below meth c s₁ B hml hv
  obtain ⟨rfl, hsz, hP, hK, hD0, hN⟩ := hv
  have hx := B.exec
  have hb := B.bytes
  have hr := B.returns
  have htw : ∀ w ∈ px_all, w.before _ s = true := fun w h => atoms_spec (ws := px_s54) B.pre w (List.mem_cons_of_mem _ h)
  have hown : s.vm.findClass "MatroidDeskModel" = some m.cls := findClass_of_methodNamed B.named
  have hlocks := B.notSynchronized
  subst hsz
  have hD := hD0.self (sz := s.heap.size)
  generalize hAe : va_A (([(h0, .inr (8, px_mf (px_rf hh rf) iv)), ((px_rf hh rf) 8, .inl (c_work, 156, .inr (.inr (.inr (.inr (fun k => some (hh k)))))))] : va_W) ++ px_np hh qq cN nv) s.heap.size = A at hD ⊢
  have hA : ∀ q : Nat, s.heap.size ≤ q → A q := fun q h => by rw [← hAe]; exact Or.inr h
  have hS : va_S A s.heap s.heap [] := va_S.rf
  have hP : va_P (dC, dI) vwCl (([(h0, .inr (8, px_mf (px_rf hh rf) iv)), ((px_rf hh rf) 8, .inl (c_work, 156, .inr (.inr (.inr (.inr (fun k => some (hh k)))))))] : va_W) ++ px_np hh qq cN nv) s.heap := hP
  have hl := lv_entry ([.ref h0, .int a1x]) (n := 3) (Nat.le_of_ble_eq_true rfl)
  rw [lg_entry_eq]
  generalize (lg_sl ([.ref h0, .int a1x]) ++ List.replicate (3 - (lg_sl ([.ref h0, .int a1x])).length) Slot.unset).toArray = ls at hl ⊢
  have hl : lv_has ls 3 [(0, .ref h0), (1, .int a1x)] := hl
  generalize hQ : MQ _ _ _ _ _ _ _ = Q
  have S118 : ∀ (x1 : Int32) (x2 : Int32) (iv : Nat → Int32) (nv : Nat → px_NV) (H : Heap) (locs : List Loc) (ls : Array Slot), va_P (dC, dI) vwCl (([(h0, .inr (8, px_mf (px_rf hh rf) iv)), ((px_rf hh rf) 8, .inl (c_work, 156, .inr (.inr (.inr (.inr (fun k => some (hh k)))))))] : va_W) ++ px_np hh qq cN nv) H → va_D A (([(h0, .inr (8, px_mf (px_rf hh rf) iv)), ((px_rf hh rf) 8, .inl (c_work, 156, .inr (.inr (.inr (.inr (fun k => some (hh k)))))))] : va_W) ++ px_np hh qq cN nv) → va_S A s.heap H locs → lv_has ls 3 [(0, .ref h0), (1, .int x1), (2, .int x2)] → w54_L118 post x1 x2 iv nv → W p l e (headSpec px_s54 ({ frames := 4, cells := 0, slots := 0, locals := 102 })).room s m ([.ref h0, .int a1x]).toArray below meth c H locs 0 0 Q (F0 m 118 ls []) := by
    intro x1 x2 iv nv H locs ls hP hD hS hl hw
    unfold w54_L118 at hw
    rw [← hQ]
    exact W.vret hx hb hr (fun t ht hW => ⟨⟨(iv, nv), rfl, hw, by rw [ht]; exact hP, va_K.moved hW.alike hK, hD⟩, hS.F ht⟩) hS.2.2 px_d54_118
  have S50 : ∀ (k50 : Nat) (x1 : Int32) (x2 : Int32) (iv : Nat → Int32) (nv : Nat → px_NV) (H : Heap) (locs : List Loc) (ls : Array Slot), va_P (dC, dI) vwCl (([(h0, .inr (8, px_mf (px_rf hh rf) iv)), ((px_rf hh rf) 8, .inl (c_work, 156, .inr (.inr (.inr (.inr (fun k => some (hh k)))))))] : va_W) ++ px_np hh qq cN nv) H → va_D A (([(h0, .inr (8, px_mf (px_rf hh rf) iv)), ((px_rf hh rf) 8, .inl (c_work, 156, .inr (.inr (.inr (.inr (fun k => some (hh k)))))))] : va_W) ++ px_np hh qq cN nv) → va_S A s.heap H locs → lv_has ls 3 [(0, .ref h0), (1, .int x1), (2, .int x2)] → w54_L50 post k50 x1 x2 iv nv → W p l e (headSpec px_s54 ({ frames := 4, cells := 0, slots := 0, locals := 102 })).room s m ([.ref h0, .int a1x]).toArray below meth c H locs 0 0 Q (F0 m 50 ls []) := by
    intro k50
    induction k50 with
    | zero => intro x1 x2 iv nv H locs ls hP hD hS hl hw; exact False.elim hw
    | succ k50 ih50 =>
      intro x1 x2 iv nv H locs ls hP hD hS hl hw
      unfold w54_L50 at hw
      refine lv_iload_n hx hb px_d54_50 rfl (lv_at hl 2 rfl) ?_
      refine lv_aload_n hx hb px_d54_51 rfl (lv_at hl 0 rfl) ?_
      refine va_get (D := (dC, dI)) (ci := 8) (v := .int (iv 11)) (C := "MatroidDeskModel") (T := px_T8) (N := 53) hx hb htw px_in8 hown hK hP 0 rfl rfl 11 (by decide) (htw _ px_w429) (fun _ h9 => h9) rfl px_d54_52 ?_
      refine lv_icmp_ge (tgt := 118) hx hb px_d54_55 (by decide) (fun c55 => ?_) (fun c55 => ?_)
      · have hw := hw.1 c55
        exact S118 x1 x2 iv nv H locs ls hP hD hS (lv_sub hl [0, 1, 2] rfl) hw
      · have hw := hw.2 c55
        refine lv_aload_n hx hb px_d54_58 rfl (lv_at hl 0 rfl) ?_
        refine va_get (D := (dC, dI)) (ci := 8) (v := .ref (hh 199)) (C := "MatroidDeskModel") (T := px_T8) (N := 53) hx hb htw px_in8 hown hK hP 0 rfl rfl 7 (by decide) (htw _ px_w459) (fun _ h9 => h9) rfl px_d54_59 ?_
        refine va_get (D := (dC, dI)) (ci := 9) (v := .int ((nv 199).1)) (C := "MatroidDeskModel$Num") (T := px_T9) (N := 3) hx hb htw px_in9 hown hK hP (2 + 199) (px_go rfl (by decide)) rfl 1 (by decide) (htw _ px_w417) (fun _ h9 => h9) rfl px_d54_62 ?_
        refine lv_if_le (tgt := 118) hx hb px_d54_65 (by decide) (fun c65 => ?_) (fun c65 => ?_)
        · have hw := hw.1 c65
          exact S118 x1 x2 iv nv H locs ls hP hD hS (lv_sub hl [0, 1, 2] rfl) hw
        · have hw := hw.2 c65
          refine lv_aload_n hx hb px_d54_68 rfl (lv_at hl 0 rfl) ?_
          refine va_get (D := (dC, dI)) (ci := 8) (v := .ref (hh 199)) (C := "MatroidDeskModel") (T := px_T8) (N := 53) hx hb htw px_in8 hown hK hP 0 rfl rfl 7 (by decide) (htw _ px_w459) (fun _ h9 => h9) rfl px_d54_69 ?_
          obtain ⟨hk72, hw⟩ := hw
          have hPc : va_P (dC, dI) vwCl [(hh 199, .inr (9, [.ref (qq 199), .int ((nv 199).1), .int ((nv 199).2.1)])), (qq 199, .inl (cN, 160, .inl ((nv 199).2.2)))] H := px_outP hP [199] hk72
          have hDc : va_D A [(hh 199, .inr (9, [.ref (qq 199), .int ((nv 199).1), .int ((nv 199).2.1)])), (qq 199, .inl (cN, 160, .inl ((nv 199).2.2)))] := px_outD hD [199] hk72
          have hFc : ∀ q, va_A [(hh 199, .inr (9, [.ref (qq 199), .int ((nv 199).1), .int ((nv 199).2.1)])), (qq 199, .inl (cN, 160, .inl ((nv 199).2.2)))] H.size q → A q := px_outF hD hS hA [199] hk72
          have hKc := hK.sub (tys' := [(cN, .int)]) [1] rfl
          refine va_calli (va_runV (As := []) (rest := []) ⟨hx, hb, hml, hown, htw⟩ (no_met l dC dI H.size (hh 199) (qq 199) cN ((nv 199).1) ((nv 199).2.1) ((nv 199).2.2) _ hw) (cwV 0 htw (px_gv px_w462 px_w282 px_w283 px_w149 px_g12) rfl rfl rfl (by decide +kernel) ⟨Nat.le_of_ble_eq_true rfl, Nat.le_of_ble_eq_true rfl⟩) ⟨fun a U g mk q => by obtain ⟨q0, q1, qP, qK, qD, qN⟩ := q; exact ⟨q0, q1, qP, va_K.moved (u := U) (U := U.calling g mk a) (Vm.Alike.refl U.vm) qK, qD, qN.same rfl⟩, va_recv hK hPc (ci := 9) (q0 := 0) rfl rfl, fun U hU hW => ⟨rfl, by rw [hU], by rw [hU]; exact hPc, va_K.moved hW.alike hKc, hDc.weaken (fun _ _ _ _ => trivial), hN.warm hW⟩⟩ rfl rfl hl.1 rfl (lv_room (Nat.le_of_ble_eq_true rfl)) px_d54_72 ⟨(Nat.le_of_ble_eq_true rfl), (Nat.le_of_ble_eq_true rfl)⟩) hS (fun q _ h => hFc q h) hFc (fun r72 u t H1 locs ht hvm hw hB hz1 hk1 hS => ?_)
          obtain ⟨v1, v2, v3⟩ := u
          obtain ⟨hP1, hK1, hD1⟩ := hB
          rw [ht] at hP1
          obtain ⟨nv5, env5⟩ : ∃ z : Nat → px_NV, z = px_fold nv [(199, ⟨v1, v2, v3⟩)] := ⟨_, rfl⟩
          have hw := hw nv5 env5
          obtain ⟨hP, hD⟩ := px_in hP hD [199] hk72 [(199, ⟨v1, v2, v3⟩)] rfl hk1 hP1 env5
          generalize H1 = H at hP hS ⊢
          have hP : va_P (dC, dI) vwCl (([(h0, .inr (8, px_mf (px_rf hh rf) iv)), ((px_rf hh rf) 8, .inl (c_work, 156, .inr (.inr (.inr (.inr (fun k => some (hh k)))))))] : va_W) ++ px_np hh qq cN nv5) H := hP
          have hD : va_D A (([(h0, .inr (8, px_mf (px_rf hh rf) iv)), ((px_rf hh rf) 8, .inl (c_work, 156, .inr (.inr (.inr (.inr (fun k => some (hh k)))))))] : va_W) ++ px_np hh qq cN nv5) := hD
          refine lv_if_ne (tgt := 118) hx hb px_d54_75 (by decide) (fun c75 => ?_) (fun c75 => ?_)
          · have hw := hw.1 c75
            exact S118 x1 x2 iv nv5 H locs ls hP hD hS (lv_sub hl [0, 1, 2] rfl) hw
          · have hw := hw.2 c75
            refine lv_aload_n hx hb px_d54_78 rfl (lv_at hl 0 rfl) ?_
            refine va_get (D := (dC, dI)) (ci := 8) (v := .ref (hh 192)) (C := "MatroidDeskModel") (T := px_T8) (N := 53) hx hb htw px_in8 hown hK hP 0 rfl rfl 0 (by decide) (htw _ px_w443) (fun _ h9 => h9) rfl px_d54_79 ?_
            refine lv_aload_n hx hb px_d54_82 rfl (lv_at hl 0 rfl) ?_
            refine lv_iload_n hx hb px_d54_83 rfl (lv_at hl 1 rfl) ?_
            refine lv_iload_n hx hb px_d54_84 rfl (lv_at hl 2 rfl) ?_
            have hPc := hP.sub (ws' := [(h0, .inr (8, px_mf (px_rf hh rf) iv)), ((px_rf hh rf) 8, .inl (c_work, 156, .inr (.inr (.inr (.inr (fun k => some (hh k)))))))]) [0, 1] rfl
            have hDc := hD.sub (ws' := [(h0, .inr (8, px_mf (px_rf hh rf) iv)), ((px_rf hh rf) 8, .inl (c_work, 156, .inr (.inr (.inr (.inr (fun k => some (hh k)))))))]) [0, 1] (by decide) rfl
            have hFc := va_free (wc := [(h0, .inr (8, px_mf (px_rf hh rf) iv)), ((px_rf hh rf) 8, .inl (c_work, 156, .inr (.inr (.inr (.inr (fun k => some (hh k)))))))]) hD hS hA [0, 1] rfl
            have hKc := hK.sub (tys' := [(c_work, .object "MatroidDeskModel$Num")]) [0] rfl
            refine va_callq (va_runV (As := [.int x1, .int x2]) (rest := [.ref (hh 192)]) ⟨hx, hb, hml, hown, htw⟩ (w47_met l dC dI H.size h0 rf hh c_work x1 x2 iv _ hw) (cwV 2 htw (px_gv px_w434 px_w422 px_w423 px_w94 px_g47) rfl rfl rfl (by decide +kernel) ⟨Nat.le_of_ble_eq_true rfl, Nat.le_of_ble_eq_true rfl⟩) ⟨fun a U g mk q => by obtain ⟨q0, q1, qP, qK, qD, qN⟩ := q; exact ⟨q0, q1, qP, va_K.moved (u := U) (U := U.calling g mk a) (Vm.Alike.refl U.vm) qK, qD, qN.same rfl⟩, va_recv hK hP (ci := 8) (q0 := 0) rfl rfl, fun U hU hW => ⟨rfl, by rw [hU], by rw [hU]; exact hPc, va_K.moved hW.alike hKc, hDc.weaken (fun _ _ _ _ => trivial), hN.warm hW⟩⟩ rfl rfl hl.1 rfl (lv_room (Nat.le_of_ble_eq_true rfl)) px_d54_85 ⟨(Nat.le_of_ble_eq_true rfl), (Nat.le_of_ble_eq_true rfl)⟩) hS (fun q _ h => hFc q h) hFc (fun r9 u t H1 locs ht hvm hw hB hz1 hk1 hS => ?_)
            obtain ⟨k85_7, v6⟩ := u
            obtain ⟨hr9, hw⟩ := hw
            subst hr9
            obtain ⟨hP1, hK1, hD1⟩ := hB
            rw [ht] at hP1
            obtain ⟨hP, hD⟩ := va_joinQ (wr := []) (w1 := [(h0, .inr (8, px_mf (px_rf hh rf) v6)), ((px_rf hh rf) 8, .inl (c_work, 156, .inr (.inr (.inr (.inr (fun k => some (hh k)))))))]) hP hD [0, 1] [] rfl rfl (by decide) (by decide) hk1 hFc hP1 hD1
            generalize H1 = H at hP hS ⊢
            have hP : va_P (dC, dI) vwCl (([(h0, .inr (8, px_mf (px_rf hh rf) v6)), ((px_rf hh rf) 8, .inl (c_work, 156, .inr (.inr (.inr (.inr (fun k => some (hh k)))))))] : va_W) ++ px_np hh qq cN nv5) H := hP
            have hD : va_D A (([(h0, .inr (8, px_mf (px_rf hh rf) v6)), ((px_rf hh rf) 8, .inl (c_work, 156, .inr (.inr (.inr (.inr (fun k => some (hh k)))))))] : va_W) ++ px_np hh qq cN nv5) := hD
            refine W.eq (g2 := F0 m 88 ls (.ref (hh k85_7) :: [.ref (hh 192)])) rfl ?_
            refine lv_aload_n hx hb px_d54_88 rfl (lv_at hl 0 rfl) ?_
            refine va_get (D := (dC, dI)) (ci := 8) (v := .ref (hh 199)) (C := "MatroidDeskModel") (T := px_T8) (N := 53) hx hb htw px_in8 hown hK hP 0 rfl rfl 7 (by decide) (htw _ px_w459) (fun _ h9 => h9) rfl px_d54_89 ?_
            refine lv_aload_n hx hb px_d54_92 rfl (lv_at hl 0 rfl) ?_
            refine va_get (D := (dC, dI)) (ci := 8) (v := .ref (hh 193)) (C := "MatroidDeskModel") (T := px_T8) (N := 53) hx hb htw px_in8 hown hK hP 0 rfl rfl 1 (by decide) (htw _ px_w419) (fun _ h9 => h9) rfl px_d54_93 ?_
            obtain ⟨hk96, hw⟩ := hw
            have hPc : va_P (dC, dI) vwCl [(hh 192, .inr (9, [.ref (qq 192), .int ((nv5 192).1), .int ((nv5 192).2.1)])), (qq 192, .inl (cN, 160, .inl ((nv5 192).2.2))), (hh k85_7, .inr (9, [.ref (qq k85_7), .int ((nv5 k85_7).1), .int ((nv5 k85_7).2.1)])), (qq k85_7, .inl (cN, 160, .inl ((nv5 k85_7).2.2))), (hh 199, .inr (9, [.ref (qq 199), .int ((nv5 199).1), .int ((nv5 199).2.1)])), (qq 199, .inl (cN, 160, .inl ((nv5 199).2.2))), (hh 193, .inr (9, [.ref (qq 193), .int ((nv5 193).1), .int ((nv5 193).2.1)])), (qq 193, .inl (cN, 160, .inl ((nv5 193).2.2)))] H := px_outP hP [192, k85_7, 199, 193] hk96
            have hDc : va_D A [(hh 192, .inr (9, [.ref (qq 192), .int ((nv5 192).1), .int ((nv5 192).2.1)])), (qq 192, .inl (cN, 160, .inl ((nv5 192).2.2))), (hh k85_7, .inr (9, [.ref (qq k85_7), .int ((nv5 k85_7).1), .int ((nv5 k85_7).2.1)])), (qq k85_7, .inl (cN, 160, .inl ((nv5 k85_7).2.2))), (hh 199, .inr (9, [.ref (qq 199), .int ((nv5 199).1), .int ((nv5 199).2.1)])), (qq 199, .inl (cN, 160, .inl ((nv5 199).2.2))), (hh 193, .inr (9, [.ref (qq 193), .int ((nv5 193).1), .int ((nv5 193).2.1)])), (qq 193, .inl (cN, 160, .inl ((nv5 193).2.2)))] := px_outD hD [192, k85_7, 199, 193] hk96
            have hFc : ∀ q, va_A [(hh 192, .inr (9, [.ref (qq 192), .int ((nv5 192).1), .int ((nv5 192).2.1)])), (qq 192, .inl (cN, 160, .inl ((nv5 192).2.2))), (hh k85_7, .inr (9, [.ref (qq k85_7), .int ((nv5 k85_7).1), .int ((nv5 k85_7).2.1)])), (qq k85_7, .inl (cN, 160, .inl ((nv5 k85_7).2.2))), (hh 199, .inr (9, [.ref (qq 199), .int ((nv5 199).1), .int ((nv5 199).2.1)])), (qq 199, .inl (cN, 160, .inl ((nv5 199).2.2))), (hh 193, .inr (9, [.ref (qq 193), .int ((nv5 193).1), .int ((nv5 193).2.1)])), (qq 193, .inl (cN, 160, .inl ((nv5 193).2.2)))] H.size q → A q := px_outF hD hS hA [192, k85_7, 199, 193] hk96
            have hKc := hK.sub (tys' := [(cN, .int), (cN, .int), (cN, .int), (cN, .int)]) [1, 1, 1, 1] rfl
            refine va_callv (va_runV (As := [.ref (hh k85_7), .ref (hh 199), .ref (hh 193)]) (rest := []) ⟨hx, hb, hml, hown, htw⟩ (nqu_met l dC dI H.size (hh 192) (qq 192) (hh k85_7) (qq k85_7) (hh 199) (qq 199) (hh 193) (qq 193) cN cN cN cN ((nv5 192).1) ((nv5 192).2.1) ((nv5 192).2.2) ((nv5 k85_7).1) ((nv5 k85_7).2.1) ((nv5 k85_7).2.2) ((nv5 199).1) ((nv5 199).2.1) ((nv5 199).2.2) ((nv5 193).1) ((nv5 193).2.1) ((nv5 193).2.2) _ hw) (cwV 3 htw (px_gv px_w420 px_w306 px_w307 px_w149 px_g19) rfl rfl rfl (by decide +kernel) ⟨Nat.le_of_ble_eq_true rfl, Nat.le_of_ble_eq_true rfl⟩) ⟨fun a U g mk q => by obtain ⟨q0, q1, qP, qK, qD, qN⟩ := q; exact ⟨q0, q1, qP, va_K.moved (u := U) (U := U.calling g mk a) (Vm.Alike.refl U.vm) qK, qD, qN.same rfl⟩, va_recv hK hPc (ci := 9) (q0 := 0) rfl rfl, fun U hU hW => ⟨rfl, by rw [hU], by rw [hU]; exact hPc, va_K.moved hW.alike hKc, hDc.weaken (fun _ _ _ _ => trivial), hN.warm hW⟩⟩ rfl rfl hl.1 rfl (lv_room (Nat.le_of_ble_eq_true rfl)) px_d54_96 ⟨(Nat.le_of_ble_eq_true rfl), (Nat.le_of_ble_eq_true rfl)⟩) hS (fun q _ h => hFc q h) hFc (fun u t H1 locs ht hvm hw hB hz1 hk1 hS => ?_)
            obtain ⟨v8, v9, v10, v11, v12, v13, v14, v15, v16, v17, v18, v19⟩ := u
            obtain ⟨hP1, hK1, hD1⟩ := hB
            rw [ht] at hP1
            obtain ⟨nv21, env21⟩ : ∃ z : Nat → px_NV, z = px_fold nv5 [(192, ⟨v8, v9, v10⟩), (k85_7, ⟨v11, v12, v13⟩), (199, ⟨v14, v15, v16⟩), (193, ⟨v17, v18, v19⟩)] := ⟨_, rfl⟩
            have hw := hw nv21 env21
            obtain ⟨hP, hD⟩ := px_in hP hD [192, k85_7, 199, 193] hk96 [(192, ⟨v8, v9, v10⟩), (k85_7, ⟨v11, v12, v13⟩), (199, ⟨v14, v15, v16⟩), (193, ⟨v17, v18, v19⟩)] rfl hk1 hP1 env21
            generalize H1 = H at hP hS ⊢
            have hP : va_P (dC, dI) vwCl (([(h0, .inr (8, px_mf (px_rf hh rf) v6)), ((px_rf hh rf) 8, .inl (c_work, 156, .inr (.inr (.inr (.inr (fun k => some (hh k)))))))] : va_W) ++ px_np hh qq cN nv21) H := hP
            have hD : va_D A (([(h0, .inr (8, px_mf (px_rf hh rf) v6)), ((px_rf hh rf) 8, .inl (c_work, 156, .inr (.inr (.inr (.inr (fun k => some (hh k)))))))] : va_W) ++ px_np hh qq cN nv21) := hD
            refine lv_aload_n hx hb px_d54_99 rfl (lv_at hl 0 rfl) ?_
            refine lv_iload_n hx hb px_d54_100 rfl (lv_at hl 1 rfl) ?_
            refine lv_iload_n hx hb px_d54_101 rfl (lv_at hl 2 rfl) ?_
            have hPc := hP.sub (ws' := [(h0, .inr (8, px_mf (px_rf hh rf) v6)), ((px_rf hh rf) 8, .inl (c_work, 156, .inr (.inr (.inr (.inr (fun k => some (hh k)))))))]) [0, 1] rfl
            have hDc := hD.sub (ws' := [(h0, .inr (8, px_mf (px_rf hh rf) v6)), ((px_rf hh rf) 8, .inl (c_work, 156, .inr (.inr (.inr (.inr (fun k => some (hh k)))))))]) [0, 1] (by decide) rfl
            have hFc := va_free (wc := [(h0, .inr (8, px_mf (px_rf hh rf) v6)), ((px_rf hh rf) 8, .inl (c_work, 156, .inr (.inr (.inr (.inr (fun k => some (hh k)))))))]) hD hS hA [0, 1] rfl
            have hKc := hK.sub (tys' := [(c_work, .object "MatroidDeskModel$Num")]) [0] rfl
            refine va_callq (va_runV (As := [.int x1, .int x2]) (rest := []) ⟨hx, hb, hml, hown, htw⟩ (w47_met l dC dI H.size h0 rf hh c_work x1 x2 v6 _ hw) (cwV 2 htw (px_gv px_w434 px_w422 px_w423 px_w94 px_g47) rfl rfl rfl (by decide +kernel) ⟨Nat.le_of_ble_eq_true rfl, Nat.le_of_ble_eq_true rfl⟩) ⟨fun a U g mk q => by obtain ⟨q0, q1, qP, qK, qD, qN⟩ := q; exact ⟨q0, q1, qP, va_K.moved (u := U) (U := U.calling g mk a) (Vm.Alike.refl U.vm) qK, qD, qN.same rfl⟩, va_recv hK hP (ci := 8) (q0 := 0) rfl rfl, fun U hU hW => ⟨rfl, by rw [hU], by rw [hU]; exact hPc, va_K.moved hW.alike hKc, hDc.weaken (fun _ _ _ _ => trivial), hN.warm hW⟩⟩ rfl rfl hl.1 rfl (lv_room (Nat.le_of_ble_eq_true rfl)) px_d54_102 ⟨(Nat.le_of_ble_eq_true rfl), (Nat.le_of_ble_eq_true rfl)⟩) hS (fun q _ h => hFc q h) hFc (fun r9 u t H1 locs ht hvm hw hB hz1 hk1 hS => ?_)
            obtain ⟨k102_23, v22⟩ := u
            obtain ⟨hr9, hw⟩ := hw
            subst hr9
            obtain ⟨hP1, hK1, hD1⟩ := hB
            rw [ht] at hP1
            obtain ⟨hP, hD⟩ := va_joinQ (wr := []) (w1 := [(h0, .inr (8, px_mf (px_rf hh rf) v22)), ((px_rf hh rf) 8, .inl (c_work, 156, .inr (.inr (.inr (.inr (fun k => some (hh k)))))))]) hP hD [0, 1] [] rfl rfl (by decide) (by decide) hk1 hFc hP1 hD1
            generalize H1 = H at hP hS ⊢
            have hP : va_P (dC, dI) vwCl (([(h0, .inr (8, px_mf (px_rf hh rf) v22)), ((px_rf hh rf) 8, .inl (c_work, 156, .inr (.inr (.inr (.inr (fun k => some (hh k)))))))] : va_W) ++ px_np hh qq cN nv21) H := hP
            have hD : va_D A (([(h0, .inr (8, px_mf (px_rf hh rf) v22)), ((px_rf hh rf) 8, .inl (c_work, 156, .inr (.inr (.inr (.inr (fun k => some (hh k)))))))] : va_W) ++ px_np hh qq cN nv21) := hD
            refine W.eq (g2 := F0 m 105 ls (.ref (hh k102_23) :: [])) rfl ?_
            refine lv_aload_n hx hb px_d54_105 rfl (lv_at hl 0 rfl) ?_
            refine va_get (D := (dC, dI)) (ci := 8) (v := .ref (hh 192)) (C := "MatroidDeskModel") (T := px_T8) (N := 53) hx hb htw px_in8 hown hK hP 0 rfl rfl 0 (by decide) (htw _ px_w443) (fun _ h9 => h9) rfl px_d54_106 ?_
            obtain ⟨hk109, hw⟩ := hw
            have hPc : va_P (dC, dI) vwCl [(hh k102_23, .inr (9, [.ref (qq k102_23), .int ((nv21 k102_23).1), .int ((nv21 k102_23).2.1)])), (qq k102_23, .inl (cN, 160, .inl ((nv21 k102_23).2.2))), (hh 192, .inr (9, [.ref (qq 192), .int ((nv21 192).1), .int ((nv21 192).2.1)])), (qq 192, .inl (cN, 160, .inl ((nv21 192).2.2)))] H := px_outP hP [k102_23, 192] hk109
            have hDc : va_D A [(hh k102_23, .inr (9, [.ref (qq k102_23), .int ((nv21 k102_23).1), .int ((nv21 k102_23).2.1)])), (qq k102_23, .inl (cN, 160, .inl ((nv21 k102_23).2.2))), (hh 192, .inr (9, [.ref (qq 192), .int ((nv21 192).1), .int ((nv21 192).2.1)])), (qq 192, .inl (cN, 160, .inl ((nv21 192).2.2)))] := px_outD hD [k102_23, 192] hk109
            have hFc : ∀ q, va_A [(hh k102_23, .inr (9, [.ref (qq k102_23), .int ((nv21 k102_23).1), .int ((nv21 k102_23).2.1)])), (qq k102_23, .inl (cN, 160, .inl ((nv21 k102_23).2.2))), (hh 192, .inr (9, [.ref (qq 192), .int ((nv21 192).1), .int ((nv21 192).2.1)])), (qq 192, .inl (cN, 160, .inl ((nv21 192).2.2)))] H.size q → A q := px_outF hD hS hA [k102_23, 192] hk109
            have hKc := hK.sub (tys' := [(cN, .int), (cN, .int)]) [1, 1] rfl
            refine va_callv (va_runV (As := [.ref (hh 192)]) (rest := []) ⟨hx, hb, hml, hown, htw⟩ (ncp_met l dC dI H.size (hh k102_23) (qq k102_23) (hh 192) (qq 192) cN cN ((nv21 k102_23).1) ((nv21 k102_23).2.1) ((nv21 k102_23).2.2) ((nv21 192).1) ((nv21 192).2.1) ((nv21 192).2.2) _ hw) (cwV 1 htw (px_gv px_w414 px_w274 px_w275 px_w149 px_g10) rfl rfl rfl (by decide +kernel) ⟨Nat.le_of_ble_eq_true rfl, Nat.le_of_ble_eq_true rfl⟩) ⟨fun a U g mk q => by obtain ⟨q0, q1, qP, qK, qD, qN⟩ := q; exact ⟨q0, q1, qP, va_K.moved (u := U) (U := U.calling g mk a) (Vm.Alike.refl U.vm) qK, qD, qN.same rfl⟩, va_recv hK hPc (ci := 9) (q0 := 0) rfl rfl, fun U hU hW => ⟨rfl, by rw [hU], by rw [hU]; exact hPc, va_K.moved hW.alike hKc, hDc.weaken (fun _ _ _ _ => trivial), hN.warm hW⟩⟩ rfl rfl hl.1 rfl (lv_room (Nat.le_of_ble_eq_true rfl)) px_d54_109 ⟨(Nat.le_of_ble_eq_true rfl), (Nat.le_of_ble_eq_true rfl)⟩) hS (fun q _ h => hFc q h) hFc (fun u t H1 locs ht hvm hw hB hz1 hk1 hS => ?_)
            obtain ⟨v24, v25, v26, v27, v28, v29⟩ := u
            obtain ⟨hP1, hK1, hD1⟩ := hB
            rw [ht] at hP1
            obtain ⟨nv31, env31⟩ : ∃ z : Nat → px_NV, z = px_fold nv21 [(k102_23, ⟨v24, v25, v26⟩), (192, ⟨v27, v28, v29⟩)] := ⟨_, rfl⟩
            have hw := hw nv31 env31
            obtain ⟨hP, hD⟩ := px_in hP hD [k102_23, 192] hk109 [(k102_23, ⟨v24, v25, v26⟩), (192, ⟨v27, v28, v29⟩)] rfl hk1 hP1 env31
            generalize H1 = H at hP hS ⊢
            have hP : va_P (dC, dI) vwCl (([(h0, .inr (8, px_mf (px_rf hh rf) v22)), ((px_rf hh rf) 8, .inl (c_work, 156, .inr (.inr (.inr (.inr (fun k => some (hh k)))))))] : va_W) ++ px_np hh qq cN nv31) H := hP
            have hD : va_D A (([(h0, .inr (8, px_mf (px_rf hh rf) v22)), ((px_rf hh rf) 8, .inl (c_work, 156, .inr (.inr (.inr (.inr (fun k => some (hh k)))))))] : va_W) ++ px_np hh qq cN nv31) := hD
            obtain ⟨z32, ez32⟩ : ∃ y : Int32, y = x2 + 1 := ⟨_, rfl⟩
            have hw := hw z32 ez32
            refine lv_iinc (v := z32) (lv' := [(2, .int z32), (0, .ref h0), (1, .int x1)]) hx hb px_d54_112 hl (k := 2) rfl (by rw [ez32]; rfl) (by decide) rfl (fun ls hl => ?_)
            refine lv_goto (tgt := 50) hx hb px_d54_115 (by decide) ?_
            exact ih50 x1 z32 v22 nv31 H locs ls hP hD hS (lv_sub hl [1, 2, 0] rfl) hw
  have S9 : ∀ (k9 : Nat) (x1 : Int32) (x2 : Int32) (iv : Nat → Int32) (nv : Nat → px_NV) (H : Heap) (locs : List Loc) (ls : Array Slot), va_P (dC, dI) vwCl (([(h0, .inr (8, px_mf (px_rf hh rf) iv)), ((px_rf hh rf) 8, .inl (c_work, 156, .inr (.inr (.inr (.inr (fun k => some (hh k)))))))] : va_W) ++ px_np hh qq cN nv) H → va_D A (([(h0, .inr (8, px_mf (px_rf hh rf) iv)), ((px_rf hh rf) 8, .inl (c_work, 156, .inr (.inr (.inr (.inr (fun k => some (hh k)))))))] : va_W) ++ px_np hh qq cN nv) → va_S A s.heap H locs → lv_has ls 3 [(0, .ref h0), (1, .int x1), (2, .int x2)] → w54_L9 post k9 x1 x2 iv nv → W p l e (headSpec px_s54 ({ frames := 4, cells := 0, slots := 0, locals := 102 })).room s m ([.ref h0, .int a1x]).toArray below meth c H locs 0 0 Q (F0 m 9 ls []) := by
    intro k9
    induction k9 with
    | zero => intro x1 x2 iv nv H locs ls hP hD hS hl hw; exact False.elim hw
    | succ k9 ih9 =>
      intro x1 x2 iv nv H locs ls hP hD hS hl hw
      unfold w54_L9 at hw
      refine lv_iload_n hx hb px_d54_9 rfl (lv_at hl 2 rfl) ?_
      refine lv_aload_n hx hb px_d54_10 rfl (lv_at hl 0 rfl) ?_
      refine va_get (D := (dC, dI)) (ci := 8) (v := .int (iv 11)) (C := "MatroidDeskModel") (T := px_T8) (N := 53) hx hb htw px_in8 hown hK hP 0 rfl rfl 11 (by decide) (htw _ px_w429) (fun _ h9 => h9) rfl px_d54_11 ?_
      refine lv_icmp_ge (tgt := 48) hx hb px_d54_14 (by decide) (fun c14 => ?_) (fun c14 => ?_)
      · have hw := hw.1 c14
        refine lv_iconst (v := 0) hx hb px_d54_48 (by decide) ?_
        refine lv_istore_n (lv' := [(2, .int 0), (0, .ref h0), (1, .int x1)]) hx hb px_d54_49 rfl hl (by decide) rfl (fun ls hl => ?_)
        obtain ⟨k9, hw⟩ := hw
        exact S50 k9 x1 0 iv nv H locs ls hP hD hS (lv_sub hl [1, 2, 0] rfl) hw
      · have hw := hw.2 c14
        refine lv_aload_n hx hb px_d54_17 rfl (lv_at hl 0 rfl) ?_
        refine lv_aload_n hx hb px_d54_18 rfl (lv_at hl 0 rfl) ?_
        refine va_get (D := (dC, dI)) (ci := 8) (v := .ref (hh 199)) (C := "MatroidDeskModel") (T := px_T8) (N := 53) hx hb htw px_in8 hown hK hP 0 rfl rfl 7 (by decide) (htw _ px_w459) (fun _ h9 => h9) rfl px_d54_19 ?_
        refine lv_aload_n hx hb px_d54_22 rfl (lv_at hl 0 rfl) ?_
        refine lv_iload_n hx hb px_d54_23 rfl (lv_at hl 1 rfl) ?_
        refine lv_iload_n hx hb px_d54_24 rfl (lv_at hl 2 rfl) ?_
        have hPc := hP.sub (ws' := [(h0, .inr (8, px_mf (px_rf hh rf) iv)), ((px_rf hh rf) 8, .inl (c_work, 156, .inr (.inr (.inr (.inr (fun k => some (hh k)))))))]) [0, 1] rfl
        have hDc := hD.sub (ws' := [(h0, .inr (8, px_mf (px_rf hh rf) iv)), ((px_rf hh rf) 8, .inl (c_work, 156, .inr (.inr (.inr (.inr (fun k => some (hh k)))))))]) [0, 1] (by decide) rfl
        have hFc := va_free (wc := [(h0, .inr (8, px_mf (px_rf hh rf) iv)), ((px_rf hh rf) 8, .inl (c_work, 156, .inr (.inr (.inr (.inr (fun k => some (hh k)))))))]) hD hS hA [0, 1] rfl
        have hKc := hK.sub (tys' := [(c_work, .object "MatroidDeskModel$Num")]) [0] rfl
        refine va_callq (va_runV (As := [.int x1, .int x2]) (rest := [.ref (hh 199), .ref h0]) ⟨hx, hb, hml, hown, htw⟩ (w47_met l dC dI H.size h0 rf hh c_work x1 x2 iv _ hw) (cwV 2 htw (px_gv px_w434 px_w422 px_w423 px_w94 px_g47) rfl rfl rfl (by decide +kernel) ⟨Nat.le_of_ble_eq_true rfl, Nat.le_of_ble_eq_true rfl⟩) ⟨fun a U g mk q => by obtain ⟨q0, q1, qP, qK, qD, qN⟩ := q; exact ⟨q0, q1, qP, va_K.moved (u := U) (U := U.calling g mk a) (Vm.Alike.refl U.vm) qK, qD, qN.same rfl⟩, va_recv hK hP (ci := 8) (q0 := 0) rfl rfl, fun U hU hW => ⟨rfl, by rw [hU], by rw [hU]; exact hPc, va_K.moved hW.alike hKc, hDc.weaken (fun _ _ _ _ => trivial), hN.warm hW⟩⟩ rfl rfl hl.1 rfl (lv_room (Nat.le_of_ble_eq_true rfl)) px_d54_25 ⟨(Nat.le_of_ble_eq_true rfl), (Nat.le_of_ble_eq_true rfl)⟩) hS (fun q _ h => hFc q h) hFc (fun r9 u t H1 locs ht hvm hw hB hz1 hk1 hS => ?_)
        obtain ⟨k25_34, v33⟩ := u
        obtain ⟨hr9, hw⟩ := hw
        subst hr9
        obtain ⟨hP1, hK1, hD1⟩ := hB
        rw [ht] at hP1
        obtain ⟨hP, hD⟩ := va_joinQ (wr := []) (w1 := [(h0, .inr (8, px_mf (px_rf hh rf) v33)), ((px_rf hh rf) 8, .inl (c_work, 156, .inr (.inr (.inr (.inr (fun k => some (hh k)))))))]) hP hD [0, 1] [] rfl rfl (by decide) (by decide) hk1 hFc hP1 hD1
        generalize H1 = H at hP hS ⊢
        have hP : va_P (dC, dI) vwCl (([(h0, .inr (8, px_mf (px_rf hh rf) v33)), ((px_rf hh rf) 8, .inl (c_work, 156, .inr (.inr (.inr (.inr (fun k => some (hh k)))))))] : va_W) ++ px_np hh qq cN nv) H := hP
        have hD : va_D A (([(h0, .inr (8, px_mf (px_rf hh rf) v33)), ((px_rf hh rf) 8, .inl (c_work, 156, .inr (.inr (.inr (.inr (fun k => some (hh k)))))))] : va_W) ++ px_np hh qq cN nv) := hD
        refine W.eq (g2 := F0 m 28 ls (.ref (hh k25_34) :: [.ref (hh 199), .ref h0])) rfl ?_
        have hPc := hP.part (cx := [(h0, .inr (8, px_mf (px_rf hh rf) v33))]) [0] rfl
        have hDc := hD.part (cx := [(h0, .inr (8, px_mf (px_rf hh rf) v33))]) [0] (by decide) rfl
        have hFc := va_freeP (cx := [(h0, .inr (8, px_mf (px_rf hh rf) v33))]) hD hS hA [0] rfl
        have hKc := hK.sub (tys' := [(cN, .int)]) [1] rfl
        refine va_callv (va_runV (As := [.ref (hh 199), .ref (hh k25_34)]) (rest := []) ⟨hx, hb, hml, hown, htw⟩ (w46_met l dC dI H.size h0 rf hh qq cN 199 k25_34 v33 nv _ hw) (cwV 2 htw (px_gv px_w461 px_w411 px_w412 px_w94 px_g46) rfl rfl rfl (by decide +kernel) ⟨Nat.le_of_ble_eq_true rfl, Nat.le_of_ble_eq_true rfl⟩) ⟨fun a U g mk q => by obtain ⟨q0, q1, qP, qK, qD, qN⟩ := q; exact ⟨q0, q1, qP, va_K.moved (u := U) (U := U.calling g mk a) (Vm.Alike.refl U.vm) qK, qD, qN.same rfl⟩, va_recv hK hP (ci := 8) (q0 := 0) rfl rfl, fun U hU hW => ⟨rfl, by rw [hU], by rw [hU]; exact hPc, va_K.moved hW.alike hKc, hDc.weaken (fun _ _ _ _ => trivial), hN.warm hW⟩⟩ rfl rfl hl.1 rfl (lv_room (Nat.le_of_ble_eq_true rfl)) px_d54_28 ⟨(Nat.le_of_ble_eq_true rfl), (Nat.le_of_ble_eq_true rfl)⟩) hS (fun q _ h => hFc q h) hFc (fun u t H1 locs ht hvm hw hB hz1 hk1 hS => ?_)
        obtain ⟨v35, v36⟩ := u
        obtain ⟨hP1, hK1, hD1⟩ := hB
        rw [ht] at hP1
        obtain ⟨hP, hD⟩ := va_joinP (wr := [((px_rf hh rf) 8, .inl (c_work, 156, .inr (.inr (.inr (.inr (fun k => some (hh k)))))))]) (rx := [(h0, .inr (8, px_mf (px_rf hh rf) v35))]) hP hD [0] [1] rfl rfl (by decide) (by decide) hk1 hFc hP1 hD1
        generalize H1 = H at hP hS ⊢
        have hP : va_P (dC, dI) vwCl (([((px_rf hh rf) 8, .inl (c_work, 156, .inr (.inr (.inr (.inr (fun k => some (hh k))))))), (h0, .inr (8, px_mf (px_rf hh rf) v35))] : va_W) ++ px_np hh qq cN v36) H := hP
        have hD : va_D A (([((px_rf hh rf) 8, .inl (c_work, 156, .inr (.inr (.inr (.inr (fun k => some (hh k))))))), (h0, .inr (8, px_mf (px_rf hh rf) v35))] : va_W) ++ px_np hh qq cN v36) := hD
        have hP := hP.part (cx := [(h0, .inr (8, px_mf (px_rf hh rf) v35)), ((px_rf hh rf) 8, .inl (c_work, 156, .inr (.inr (.inr (.inr (fun k => some (hh k)))))))]) [1, 0] rfl
        have hD := hD.part (cx := [(h0, .inr (8, px_mf (px_rf hh rf) v35)), ((px_rf hh rf) 8, .inl (c_work, 156, .inr (.inr (.inr (.inr (fun k => some (hh k)))))))]) [1, 0] (by decide) rfl
        refine lv_aload_n hx hb px_d54_31 rfl (lv_at hl 0 rfl) ?_
        refine va_get (D := (dC, dI)) (ci := 8) (v := .ref (hh 199)) (C := "MatroidDeskModel") (T := px_T8) (N := 53) hx hb htw px_in8 hown hK hP 0 rfl rfl 7 (by decide) (htw _ px_w459) (fun _ h9 => h9) rfl px_d54_32 ?_
        refine lv_aload_n hx hb px_d54_35 rfl (lv_at hl 0 rfl) ?_
        refine va_get (D := (dC, dI)) (ci := 8) (v := .ref (hh 196)) (C := "MatroidDeskModel") (T := px_T8) (N := 53) hx hb htw px_in8 hown hK hP 0 rfl rfl 4 (by decide) (htw _ px_w413) (fun _ h9 => h9) rfl px_d54_36 ?_
        obtain ⟨hk39, hw⟩ := hw
        have hPc : va_P (dC, dI) vwCl [(hh 199, .inr (9, [.ref (qq 199), .int ((v36 199).1), .int ((v36 199).2.1)])), (qq 199, .inl (cN, 160, .inl ((v36 199).2.2))), (hh 196, .inr (9, [.ref (qq 196), .int ((v36 196).1), .int ((v36 196).2.1)])), (qq 196, .inl (cN, 160, .inl ((v36 196).2.2)))] H := px_outP hP [199, 196] hk39
        have hDc : va_D A [(hh 199, .inr (9, [.ref (qq 199), .int ((v36 199).1), .int ((v36 199).2.1)])), (qq 199, .inl (cN, 160, .inl ((v36 199).2.2))), (hh 196, .inr (9, [.ref (qq 196), .int ((v36 196).1), .int ((v36 196).2.1)])), (qq 196, .inl (cN, 160, .inl ((v36 196).2.2)))] := px_outD hD [199, 196] hk39
        have hFc : ∀ q, va_A [(hh 199, .inr (9, [.ref (qq 199), .int ((v36 199).1), .int ((v36 199).2.1)])), (qq 199, .inl (cN, 160, .inl ((v36 199).2.2))), (hh 196, .inr (9, [.ref (qq 196), .int ((v36 196).1), .int ((v36 196).2.1)])), (qq 196, .inl (cN, 160, .inl ((v36 196).2.2)))] H.size q → A q := px_outF hD hS hA [199, 196] hk39
        have hKc := hK.sub (tys' := [(cN, .int), (cN, .int)]) [1, 1] rfl
        refine va_callv (va_runV (As := [.ref (hh 196)]) (rest := []) ⟨hx, hb, hml, hown, htw⟩ (ncp_met l dC dI H.size (hh 199) (qq 199) (hh 196) (qq 196) cN cN ((v36 199).1) ((v36 199).2.1) ((v36 199).2.2) ((v36 196).1) ((v36 196).2.1) ((v36 196).2.2) _ hw) (cwV 1 htw (px_gv px_w414 px_w274 px_w275 px_w149 px_g10) rfl rfl rfl (by decide +kernel) ⟨Nat.le_of_ble_eq_true rfl, Nat.le_of_ble_eq_true rfl⟩) ⟨fun a U g mk q => by obtain ⟨q0, q1, qP, qK, qD, qN⟩ := q; exact ⟨q0, q1, qP, va_K.moved (u := U) (U := U.calling g mk a) (Vm.Alike.refl U.vm) qK, qD, qN.same rfl⟩, va_recv hK hPc (ci := 9) (q0 := 0) rfl rfl, fun U hU hW => ⟨rfl, by rw [hU], by rw [hU]; exact hPc, va_K.moved hW.alike hKc, hDc.weaken (fun _ _ _ _ => trivial), hN.warm hW⟩⟩ rfl rfl hl.1 rfl (lv_room (Nat.le_of_ble_eq_true rfl)) px_d54_39 ⟨(Nat.le_of_ble_eq_true rfl), (Nat.le_of_ble_eq_true rfl)⟩) hS (fun q _ h => hFc q h) hFc (fun u t H1 locs ht hvm hw hB hz1 hk1 hS => ?_)
        obtain ⟨v38, v39, v40, v41, v42, v43⟩ := u
        obtain ⟨hP1, hK1, hD1⟩ := hB
        rw [ht] at hP1
        obtain ⟨nv45, env45⟩ : ∃ z : Nat → px_NV, z = px_fold v36 [(199, ⟨v38, v39, v40⟩), (196, ⟨v41, v42, v43⟩)] := ⟨_, rfl⟩
        have hw := hw nv45 env45
        obtain ⟨hP, hD⟩ := px_in hP hD [199, 196] hk39 [(199, ⟨v38, v39, v40⟩), (196, ⟨v41, v42, v43⟩)] rfl hk1 hP1 env45
        generalize H1 = H at hP hS ⊢
        have hP : va_P (dC, dI) vwCl (([(h0, .inr (8, px_mf (px_rf hh rf) v35)), ((px_rf hh rf) 8, .inl (c_work, 156, .inr (.inr (.inr (.inr (fun k => some (hh k)))))))] : va_W) ++ px_np hh qq cN nv45) H := hP
        have hD : va_D A (([(h0, .inr (8, px_mf (px_rf hh rf) v35)), ((px_rf hh rf) 8, .inl (c_work, 156, .inr (.inr (.inr (.inr (fun k => some (hh k)))))))] : va_W) ++ px_np hh qq cN nv45) := hD
        obtain ⟨z46, ez46⟩ : ∃ y : Int32, y = x2 + 1 := ⟨_, rfl⟩
        have hw := hw z46 ez46
        refine lv_iinc (v := z46) (lv' := [(2, .int z46), (0, .ref h0), (1, .int x1)]) hx hb px_d54_42 hl (k := 2) rfl (by rw [ez46]; rfl) (by decide) rfl (fun ls hl => ?_)
        refine lv_goto (tgt := 9) hx hb px_d54_45 (by decide) ?_
        exact ih9 x1 z46 v35 nv45 H locs ls hP hD hS (lv_sub hl [1, 2, 0] rfl) hw
  unfold w54_wp at hw
  have hS0 := hS
  obtain ⟨H, hH9⟩ : ∃ z, z = s.heap := ⟨_, rfl⟩
  have hP : va_P (dC, dI) vwCl (([(h0, .inr (8, px_mf (px_rf hh rf) iv)), ((px_rf hh rf) 8, .inl (c_work, 156, .inr (.inr (.inr (.inr (fun k => some (hh k)))))))] : va_W) ++ px_np hh qq cN nv) H := by rw [hH9]; exact hP
  obtain ⟨locs, hlo9⟩ : ∃ z : List Loc, z = [] := ⟨_, rfl⟩
  have hS : va_S A s.heap H locs := by rw [hH9, hlo9]; exact hS
  suffices hG : W p l e (headSpec px_s54 ({ frames := 4, cells := 0, slots := 0, locals := 102 })).room s m ([.ref h0, .int a1x]).toArray below meth c H locs 0 0 Q (F0 m 0 ls []) by rw [hH9, hlo9] at hG; exact hG
  refine lv_aload_n hx hb px_d54_0 rfl (lv_at hl 0 rfl) ?_
  refine va_get (D := (dC, dI)) (ci := 8) (v := .ref (hh 199)) (C := "MatroidDeskModel") (T := px_T8) (N := 53) hx hb htw px_in8 hown hK hP 0 rfl rfl 7 (by decide) (htw _ px_w459) (fun _ h9 => h9) rfl px_d54_1 ?_
  obtain ⟨hk4, hw⟩ := hw
  have hPc : va_P (dC, dI) vwCl [(hh 199, .inr (9, [.ref (qq 199), .int ((nv 199).1), .int ((nv 199).2.1)])), (qq 199, .inl (cN, 160, .inl ((nv 199).2.2)))] H := px_outP hP [199] hk4
  have hDc : va_D A [(hh 199, .inr (9, [.ref (qq 199), .int ((nv 199).1), .int ((nv 199).2.1)])), (qq 199, .inl (cN, 160, .inl ((nv 199).2.2)))] := px_outD hD [199] hk4
  have hFc : ∀ q, va_A [(hh 199, .inr (9, [.ref (qq 199), .int ((nv 199).1), .int ((nv 199).2.1)])), (qq 199, .inl (cN, 160, .inl ((nv 199).2.2)))] H.size q → A q := px_outF hD hS hA [199] hk4
  have hKc := hK.sub (tys' := [(cN, .int)]) [1] rfl
  refine va_callv (va_runV (As := []) (rest := []) ⟨hx, hb, hml, hown, htw⟩ (nz_met l dC dI H.size (hh 199) (qq 199) cN ((nv 199).1) ((nv 199).2.1) ((nv 199).2.2) _ hw) (cwV 0 htw (px_gv px_w460 px_w269 px_w270 px_w149 px_g9) rfl rfl rfl (by decide +kernel) ⟨Nat.le_of_ble_eq_true rfl, Nat.le_of_ble_eq_true rfl⟩) ⟨fun a U g mk q => by obtain ⟨q0, q1, qP, qK, qD, qN⟩ := q; exact ⟨q0, q1, qP, va_K.moved (u := U) (U := U.calling g mk a) (Vm.Alike.refl U.vm) qK, qD, qN.same rfl⟩, va_recv hK hPc (ci := 9) (q0 := 0) rfl rfl, fun U hU hW => ⟨rfl, by rw [hU], by rw [hU]; exact hPc, va_K.moved hW.alike hKc, hDc.weaken (fun _ _ _ _ => trivial), hN.warm hW⟩⟩ rfl rfl hl.1 rfl (lv_room (Nat.le_of_ble_eq_true rfl)) px_d54_4 ⟨(Nat.le_of_ble_eq_true rfl), (Nat.le_of_ble_eq_true rfl)⟩) hS (fun q _ h => hFc q h) hFc (fun u t H1 locs ht hvm hw hB hz1 hk1 hS => ?_)
  obtain ⟨v47, v48, v49⟩ := u
  obtain ⟨hP1, hK1, hD1⟩ := hB
  rw [ht] at hP1
  obtain ⟨nv51, env51⟩ : ∃ z : Nat → px_NV, z = px_fold nv [(199, ⟨v47, v48, v49⟩)] := ⟨_, rfl⟩
  have hw := hw nv51 env51
  obtain ⟨hP, hD⟩ := px_in hP hD [199] hk4 [(199, ⟨v47, v48, v49⟩)] rfl hk1 hP1 env51
  generalize H1 = H at hP hS ⊢
  have hP : va_P (dC, dI) vwCl (([(h0, .inr (8, px_mf (px_rf hh rf) iv)), ((px_rf hh rf) 8, .inl (c_work, 156, .inr (.inr (.inr (.inr (fun k => some (hh k)))))))] : va_W) ++ px_np hh qq cN nv51) H := hP
  have hD : va_D A (([(h0, .inr (8, px_mf (px_rf hh rf) iv)), ((px_rf hh rf) 8, .inl (c_work, 156, .inr (.inr (.inr (.inr (fun k => some (hh k)))))))] : va_W) ++ px_np hh qq cN nv51) := hD
  refine lv_iconst (v := 0) hx hb px_d54_7 (by decide) ?_
  refine lv_istore_n (lv' := [(2, .int 0), (0, .ref h0), (1, .int a1x)]) hx hb px_d54_8 rfl hl (by decide) rfl (fun ls hl => ?_)
  obtain ⟨k9, hw⟩ := hw
  exact S9 k9 a1x 0 iv nv51 H locs ls hP hD hS (lv_sub hl [1, 2, 0] rfl) hw

/-! MatroidDeskModel.take(III)V -/
def w53_L153 (post : (Nat → Int32) → (Nat → Int32) → (Nat → px_NV) → Prop) : Nat → Int32 → Int32 → Int32 → Int32 → (Nat → Int32) → (Nat → Int32) → (Nat → px_NV) → Prop
  | 0 => fun _ _ _ _ _ _ _ => False
  | k + 1 => fun x1 x2 x3 x4 iv g_small nv => ((iv 11) ≤ x4 → (w54_wp (fun v1 v2 => post v1 g_small v2) x1 iv nv)) ∧ (¬ (iv 11) ≤ x4 → (w47_wp (fun k170_5 v4 => px_ix [192, k170_5, 197] ∧ (npr_wp (fun v6 v7 v8 v9 v10 v11 v12 v13 v14 => ∀ nv16 : Nat → px_NV, nv16 = px_fold nv [(192, ⟨v6, v7, v8⟩), (k170_5, ⟨v9, v10, v11⟩), (197, ⟨v12, v13, v14⟩)] → ((w47_wp (fun k188_18 v17 => px_ix [193, k188_18, 198] ∧ (npr_wp (fun v19 v20 v21 v22 v23 v24 v25 v26 v27 => ∀ nv29 : Nat → px_NV, nv29 = px_fold nv16 [(193, ⟨v19, v20, v21⟩), (k188_18, ⟨v22, v23, v24⟩), (198, ⟨v25, v26, v27⟩)] → ((w47_wp (fun k202_31 v30 => k202_31 < 200 ∧ (w17_wp k202_31 192 193 (fun v32 => ∀ z34 : Int32, z34 = x4 + 1 → (w53_L153 post k) x1 x2 x3 z34 v30 g_small v32) nv29)) x1 x4 v17))) ((nv16 193).1) ((nv16 193).2.1) ((nv16 193).2.2) ((nv16 k188_18).1) ((nv16 k188_18).2.1) ((nv16 k188_18).2.2) ((nv16 198).1) ((nv16 198).2.1) ((nv16 198).2.2))) x2 x4 v4))) ((nv 192).1) ((nv 192).2.1) ((nv 192).2.2) ((nv k170_5).1) ((nv k170_5).2.1) ((nv k170_5).2.2) ((nv 197).1) ((nv 197).2.1) ((nv 197).2.2))) x1 x4 iv))
def w53_L116 (K44 : Int32 → Int32 → Int32 → Int32 → Int32 → (Nat → Int32) → (Nat → Int32) → (Nat → px_NV) → Prop) (post : (Nat → Int32) → (Nat → Int32) → (Nat → px_NV) → Prop) (x1 : Int32) (x2 : Int32) (x3 : Int32) (x4 : Int32) (x5 : Int32) (x6 : Int32) (y0 : Int32) (y1 : Int32) (iv : Nat → Int32) (g_small : Nat → Int32) (nv : Nat → px_NV) : Prop := vp_in y1 156 ∧ (∀ z35 : Int32, z35 = x5 + 1 → K44 x1 x2 x3 x4 z35 iv (upd g_small (Int32.toNatClampNeg y1) y0) nv)
def w53_L44 (post : (Nat → Int32) → (Nat → Int32) → (Nat → px_NV) → Prop) : Nat → Int32 → Int32 → Int32 → Int32 → Int32 → (Nat → Int32) → (Nat → Int32) → (Nat → px_NV) → Prop
  | 0 => fun _ _ _ _ _ _ _ _ => False
  | k + 1 => fun x1 x2 x3 x4 x5 iv g_small nv => ((iv 11) ≤ x5 → post iv g_small nv) ∧ (¬ (iv 11) ≤ x5 → vp_in ((12 * x1) + x5) 156 ∧ (vp_in ((12 * x2) + x5) 156 ∧ (¬ (iv 12) = 0 ∧ (∀ z36 : Int32, z36 = (g_small (Int32.toNatClampNeg ((12 * x1) + x5))) - ((x4 * (g_small (Int32.toNatClampNeg ((12 * x2) + x5)))) - (x4 * (g_small (Int32.toNatClampNeg ((12 * x2) + x5)))) / (iv 12) * (iv 12)) → (0 ≤ z36 → w53_L116 (w53_L44 post k) post x1 x2 x3 x4 x5 z36 z36 ((12 * x1) + x5) iv g_small nv) ∧ (¬ 0 ≤ z36 → w53_L116 (w53_L44 post k) post x1 x2 x3 x4 x5 z36 (z36 + (iv 12)) ((12 * x1) + x5) iv g_small nv)))))
def w53_wp (post : (Nat → Int32) → (Nat → Int32) → (Nat → px_NV) → Prop) (a1x : Int32) (a2x : Int32) (a3x : Int32) (iv : Nat → Int32) (g_small : Nat → Int32) (nv : Nat → px_NV) : Prop := ((iv 12) ≤ 0 → (w47_wp (fun k131_38 v37 => px_ix [197, k131_38] ∧ (ncp_wp (fun v39 v40 v41 v42 v43 v44 => ∀ nv46 : Nat → px_NV, nv46 = px_fold nv [(197, ⟨v39, v40, v41⟩), (k131_38, ⟨v42, v43, v44⟩)] → ((w47_wp (fun k144_48 v47 => px_ix [198, k144_48] ∧ (ncp_wp (fun v49 v50 v51 v52 v53 v54 => ∀ nv56 : Nat → px_NV, nv56 = px_fold nv46 [(198, ⟨v49, v50, v51⟩), (k144_48, ⟨v52, v53, v54⟩)] → (∃ j153, w53_L153 post j153 a1x a2x a3x 0 v47 g_small nv56)) ((nv46 198).1) ((nv46 198).2.1) ((nv46 198).2.2) ((nv46 k144_48).1) ((nv46 k144_48).2.1) ((nv46 k144_48).2.2))) a1x a3x v37))) ((nv 197).1) ((nv 197).2.1) ((nv 197).2.2) ((nv k131_38).1) ((nv k131_38).2.1) ((nv k131_38).2.2))) a2x a3x iv)) ∧ (¬ (iv 12) ≤ 0 → vp_in ((12 * a1x) + a3x) 156 ∧ (vp_in ((12 * a2x) + a3x) 156 ∧ ((w52_wp (fun r30 v57 => ¬ (v57 12) = 0 ∧ (∀ z59 : Int32, z59 = ((g_small (Int32.toNatClampNeg ((12 * a1x) + a3x))) * r30) - ((g_small (Int32.toNatClampNeg ((12 * a1x) + a3x))) * r30) / (v57 12) * (v57 12) → ∃ j44, w53_L44 post j44 a1x a2x a3x z59 0 v57 g_small nv)) (g_small (Int32.toNatClampNeg ((12 * a2x) + a3x))) iv))))
set_option maxHeartbeats 8000000 in
set_option maxRecDepth 100000 in
theorem w53_met (l : Launch) (dC : Nat → ClassId) (dI : Nat → Nat → Nat) (sz : Nat) (h0 : Nat) (rf : Nat → Nat) (hh : Nat → Nat) (qq : Nat → Nat) (cN : ClassId) (c_work : ClassId) (c_small : ClassId) (a1x : Int32) (a2x : Int32) (a3x : Int32) (iv : Nat → Int32) (g_small : Nat → Int32) (nv : Nat → px_NV) (post : (Nat → Int32) → (Nat → Int32) → (Nat → px_NV) → Prop) (hw : w53_wp post a1x a2x a3x iv g_small nv) : Met l px_y53 px_s53 ({ frames := 5, cells := 0, slots := 0, locals := 124 }) (va_Pc [.ref h0, .int a1x, .int a2x, .int a3x] (fun U => U.heap.size = sz ∧ va_P (dC, dI) vwCl (([(h0, .inr (8, px_mf (px_rf hh rf) iv)), ((px_rf hh rf) 8, .inl (c_work, 156, .inr (.inr (.inr (.inr (fun k => some (hh k))))))), ((px_rf hh rf) 9, .inl (c_small, 156, .inl g_small))] : va_W) ++ px_np hh qq cN nv) U.heap ∧ va_K (dC, dI) vwCl [(c_work, .object "MatroidDeskModel$Num"), (c_small, .int), (cN, .int)] U ∧ va_D (fun _ => True) (([(h0, .inr (8, px_mf (px_rf hh rf) iv)), ((px_rf hh rf) 8, .inl (c_work, 156, .inr (.inr (.inr (.inr (fun k => some (hh k))))))), ((px_rf hh rf) 9, .inl (c_small, 156, .inl g_small))] : va_W) ++ px_np hh qq cN nv) ∧ px_N U)) (va_Qv (fun (u : (Nat → Int32) × (Nat → Int32) × (Nat → px_NV)) => post u.1 u.2.1 u.2.2) (fun (u : (Nat → Int32) × (Nat → Int32) × (Nat → px_NV)) (t : State) => va_P (dC, dI) vwCl (([(h0, .inr (8, px_mf (px_rf hh rf) u.1)), ((px_rf hh rf) 8, .inl (c_work, 156, .inr (.inr (.inr (.inr (fun k => some (hh k))))))), ((px_rf hh rf) 9, .inl (c_small, 156, .inl u.2.1))] : va_W) ++ px_np hh qq cN u.2.2) t.heap ∧ va_K (dC, dI) vwCl [(c_work, .object "MatroidDeskModel$Num"), (c_small, .int), (cN, .int)] t ∧ va_D (va_A (([(h0, .inr (8, px_mf (px_rf hh rf) iv)), ((px_rf hh rf) 8, .inl (c_work, 156, .inr (.inr (.inr (.inr (fun k => some (hh k))))))), ((px_rf hh rf) 9, .inl (c_small, 156, .inl g_small))] : va_W) ++ px_np hh qq cN nv) sz) (([(h0, .inr (8, px_mf (px_rf hh rf) u.1)), ((px_rf hh rf) 8, .inl (c_work, 156, .inr (.inr (.inr (.inr (fun k => some (hh k))))))), ((px_rf hh rf) 9, .inl (c_small, 156, .inl u.2.1))] : va_W) ++ px_np hh qq cN u.2.2)) (va_A (([(h0, .inr (8, px_mf (px_rf hh rf) iv)), ((px_rf hh rf) 8, .inl (c_work, 156, .inr (.inr (.inr (.inr (fun k => some (hh k))))))), ((px_rf hh rf) 9, .inl (c_small, 156, .inl g_small))] : va_W) ++ px_np hh qq cN nv) sz)) 0 0 (va_A (([(h0, .inr (8, px_mf (px_rf hh rf) iv)), ((px_rf hh rf) 8, .inl (c_work, 156, .inr (.inr (.inr (.inr (fun k => some (hh k))))))), ((px_rf hh rf) 9, .inl (c_small, 156, .inl g_small))] : va_W) ++ px_np hh qq cN nv) sz) := by
  refine Met.ofW (cc := prog_15_method_8_code) (maxL := 7) (ret := none) (by decide) rfl ?_
  intro p e s m args below meth c s₁ B hml hv
  obtain ⟨rfl, hsz, hP, hK, hD0, hN⟩ := hv
  have hx := B.exec
  have hb := B.bytes
  have hr := B.returns
  have htw : ∀ w ∈ px_all, w.before _ s = true := fun w h => atoms_spec (ws := px_s53) B.pre w (List.mem_cons_of_mem _ h)
  have hown : s.vm.findClass "MatroidDeskModel" = some m.cls := findClass_of_methodNamed B.named
  have hlocks := B.notSynchronized
  subst hsz
  have hD := hD0.self (sz := s.heap.size)
  generalize hAe : va_A (([(h0, .inr (8, px_mf (px_rf hh rf) iv)), ((px_rf hh rf) 8, .inl (c_work, 156, .inr (.inr (.inr (.inr (fun k => some (hh k))))))), ((px_rf hh rf) 9, .inl (c_small, 156, .inl g_small))] : va_W) ++ px_np hh qq cN nv) s.heap.size = A at hD ⊢
  have hA : ∀ q : Nat, s.heap.size ≤ q → A q := fun q h => by rw [← hAe]; exact Or.inr h
  have hS : va_S A s.heap s.heap [] := va_S.rf
  have hP : va_P (dC, dI) vwCl (([(h0, .inr (8, px_mf (px_rf hh rf) iv)), ((px_rf hh rf) 8, .inl (c_work, 156, .inr (.inr (.inr (.inr (fun k => some (hh k))))))), ((px_rf hh rf) 9, .inl (c_small, 156, .inl g_small))] : va_W) ++ px_np hh qq cN nv) s.heap := hP
  have hl := lv_entry ([.ref h0, .int a1x, .int a2x, .int a3x]) (n := 7) (Nat.le_of_ble_eq_true rfl)
  rw [lg_entry_eq]
  generalize (lg_sl ([.ref h0, .int a1x, .int a2x, .int a3x]) ++ List.replicate (7 - (lg_sl ([.ref h0, .int a1x, .int a2x, .int a3x])).length) Slot.unset).toArray = ls at hl ⊢
  have hl : lv_has ls 7 [(0, .ref h0), (1, .int a1x), (2, .int a2x), (3, .int a3x)] := hl
  generalize hQ : MQ _ _ _ _ _ _ _ = Q
  have S153 : ∀ (k153 : Nat) (x1 : Int32) (x2 : Int32) (x3 : Int32) (x4 : Int32) (iv : Nat → Int32) (g_small : Nat → Int32) (nv : Nat → px_NV) (H : Heap) (locs : List Loc) (ls : Array Slot), va_P (dC, dI) vwCl (([(h0, .inr (8, px_mf (px_rf hh rf) iv)), ((px_rf hh rf) 8, .inl (c_work, 156, .inr (.inr (.inr (.inr (fun k => some (hh k))))))), ((px_rf hh rf) 9, .inl (c_small, 156, .inl g_small))] : va_W) ++ px_np hh qq cN nv) H → va_D A (([(h0, .inr (8, px_mf (px_rf hh rf) iv)), ((px_rf hh rf) 8, .inl (c_work, 156, .inr (.inr (.inr (.inr (fun k => some (hh k))))))), ((px_rf hh rf) 9, .inl (c_small, 156, .inl g_small))] : va_W) ++ px_np hh qq cN nv) → va_S A s.heap H locs → lv_has ls 7 [(0, .ref h0), (1, .int x1), (2, .int x2), (3, .int x3), (4, .int x4)] → w53_L153 post k153 x1 x2 x3 x4 iv g_small nv → W p l e (headSpec px_s53 ({ frames := 5, cells := 0, slots := 0, locals := 124 })).room s m ([.ref h0, .int a1x, .int a2x, .int a3x]).toArray below meth c H locs 0 0 Q (F0 m 153 ls []) := by
    intro k153
    induction k153 with
    | zero => intro x1 x2 x3 x4 iv g_small nv H locs ls hP hD hS hl hw; exact False.elim hw
    | succ k153 ih153 =>
      intro x1 x2 x3 x4 iv g_small nv H locs ls hP hD hS hl hw
      unfold w53_L153 at hw
      refine lv_iload hx hb px_d53_153 (lv_at hl 4 rfl) ?_
      refine lv_aload_n hx hb px_d53_155 rfl (lv_at hl 0 rfl) ?_
      refine va_get (D := (dC, dI)) (ci := 8) (v := .int (iv 11)) (C := "MatroidDeskModel") (T := px_T8) (N := 53) hx hb htw px_in8 hown hK hP 0 rfl rfl 11 (by decide) (htw _ px_w429) (fun _ h9 => h9) rfl px_d53_156 ?_
      refine lv_icmp_ge (tgt := 222) hx hb px_d53_159 (by decide) (fun c159 => ?_) (fun c159 => ?_)
      · have hw := hw.1 c159
        refine lv_aload_n hx hb px_d53_222 rfl (lv_at hl 0 rfl) ?_
        refine lv_iload_n hx hb px_d53_223 rfl (lv_at hl 1 rfl) ?_
        have hPc := hP.part (cx := [(h0, .inr (8, px_mf (px_rf hh rf) iv)), ((px_rf hh rf) 8, .inl (c_work, 156, .inr (.inr (.inr (.inr (fun k => some (hh k)))))))]) [0, 1] rfl
        have hDc := hD.part (cx := [(h0, .inr (8, px_mf (px_rf hh rf) iv)), ((px_rf hh rf) 8, .inl (c_work, 156, .inr (.inr (.inr (.inr (fun k => some (hh k)))))))]) [0, 1] (by decide) rfl
        have hFc := va_freeP (cx := [(h0, .inr (8, px_mf (px_rf hh rf) iv)), ((px_rf hh rf) 8, .inl (c_work, 156, .inr (.inr (.inr (.inr (fun k => some (hh k)))))))]) hD hS hA [0, 1] rfl
        have hKc := hK.sub (tys' := [(c_work, .object "MatroidDeskModel$Num"), (cN, .int)]) [0, 2] rfl
        refine va_callv (va_runV (As := [.int x1]) (rest := []) ⟨hx, hb, hml, hown, htw⟩ (w54_met l dC dI H.size h0 rf hh qq cN c_work x1 iv nv _ hw) (cwV 1 htw (px_gv px_w455 px_w457 px_w458 px_w94 px_g54) rfl rfl rfl (by decide +kernel) ⟨Nat.le_of_ble_eq_true rfl, Nat.le_of_ble_eq_true rfl⟩) ⟨fun a U g mk q => by obtain ⟨q0, q1, qP, qK, qD, qN⟩ := q; exact ⟨q0, q1, qP, va_K.moved (u := U) (U := U.calling g mk a) (Vm.Alike.refl U.vm) qK, qD, qN.same rfl⟩, va_recv hK hP (ci := 8) (q0 := 0) rfl rfl, fun U hU hW => ⟨rfl, by rw [hU], by rw [hU]; exact hPc, va_K.moved hW.alike hKc, hDc.weaken (fun _ _ _ _ => trivial), hN.warm hW⟩⟩ rfl rfl hl.1 rfl (lv_room (Nat.le_of_ble_eq_true rfl)) px_d53_224 ⟨(Nat.le_of_ble_eq_true rfl), (Nat.le_of_ble_eq_true rfl)⟩) hS (fun q _ h => hFc q h) hFc (fun u t H1 locs ht hvm hw hB hz1 hk1 hS => ?_)
        obtain ⟨v1, v2⟩ := u
        obtain ⟨hP1, hK1, hD1⟩ := hB
        rw [ht] at hP1
        obtain ⟨hP, hD⟩ := va_joinP (wr := [((px_rf hh rf) 9, .inl (c_small, 156, .inl g_small))]) (rx := [(h0, .inr (8, px_mf (px_rf hh rf) v1)), ((px_rf hh rf) 8, .inl (c_work, 156, .inr (.inr (.inr (.inr (fun k => some (hh k)))))))]) hP hD [0, 1] [2] rfl rfl (by decide) (by decide) hk1 hFc hP1 hD1
        generalize H1 = H at hP hS ⊢
        have hP : va_P (dC, dI) vwCl (([((px_rf hh rf) 9, .inl (c_small, 156, .inl g_small)), (h0, .inr (8, px_mf (px_rf hh rf) v1)), ((px_rf hh rf) 8, .inl (c_work, 156, .inr (.inr (.inr (.inr (fun k => some (hh k)))))))] : va_W) ++ px_np hh qq cN v2) H := hP
        have hD : va_D A (([((px_rf hh rf) 9, .inl (c_small, 156, .inl g_small)), (h0, .inr (8, px_mf (px_rf hh rf) v1)), ((px_rf hh rf) 8, .inl (c_work, 156, .inr (.inr (.inr (.inr (fun k => some (hh k)))))))] : va_W) ++ px_np hh qq cN v2) := hD
        have hP := hP.part (cx := [(h0, .inr (8, px_mf (px_rf hh rf) v1)), ((px_rf hh rf) 8, .inl (c_work, 156, .inr (.inr (.inr (.inr (fun k => some (hh k))))))), ((px_rf hh rf) 9, .inl (c_small, 156, .inl g_small))]) [1, 2, 0] rfl
        have hD := hD.part (cx := [(h0, .inr (8, px_mf (px_rf hh rf) v1)), ((px_rf hh rf) 8, .inl (c_work, 156, .inr (.inr (.inr (.inr (fun k => some (hh k))))))), ((px_rf hh rf) 9, .inl (c_small, 156, .inl g_small))]) [1, 2, 0] (by decide) rfl
        rw [← hQ]
        exact W.vret hx hb hr (fun t ht hW => ⟨⟨(v1, g_small, v2), rfl, hw, by rw [ht]; exact hP, va_K.moved hW.alike hK, hD⟩, hS.F ht⟩) hS.2.2 px_d53_227
      · have hw := hw.2 c159
        refine lv_aload_n hx hb px_d53_162 rfl (lv_at hl 0 rfl) ?_
        refine va_get (D := (dC, dI)) (ci := 8) (v := .ref (hh 192)) (C := "MatroidDeskModel") (T := px_T8) (N := 53) hx hb htw px_in8 hown hK hP 0 rfl rfl 0 (by decide) (htw _ px_w443) (fun _ h9 => h9) rfl px_d53_163 ?_
        refine lv_aload_n hx hb px_d53_166 rfl (lv_at hl 0 rfl) ?_
        refine lv_iload_n hx hb px_d53_167 rfl (lv_at hl 1 rfl) ?_
        refine lv_iload hx hb px_d53_168 (lv_at hl 4 rfl) ?_
        have hPc := hP.sub (ws' := [(h0, .inr (8, px_mf (px_rf hh rf) iv)), ((px_rf hh rf) 8, .inl (c_work, 156, .inr (.inr (.inr (.inr (fun k => some (hh k)))))))]) [0, 1] rfl
        have hDc := hD.sub (ws' := [(h0, .inr (8, px_mf (px_rf hh rf) iv)), ((px_rf hh rf) 8, .inl (c_work, 156, .inr (.inr (.inr (.inr (fun k => some (hh k)))))))]) [0, 1] (by decide) rfl
        have hFc := va_free (wc := [(h0, .inr (8, px_mf (px_rf hh rf) iv)), ((px_rf hh rf) 8, .inl (c_work, 156, .inr (.inr (.inr (.inr (fun k => some (hh k)))))))]) hD hS hA [0, 1] rfl
        have hKc := hK.sub (tys' := [(c_work, .object "MatroidDeskModel$Num")]) [0] rfl
        refine va_callq (va_runV (As := [.int x1, .int x4]) (rest := [.ref (hh 192)]) ⟨hx, hb, hml, hown, htw⟩ (w47_met l dC dI H.size h0 rf hh c_work x1 x4 iv _ hw) (cwV 2 htw (px_gv px_w434 px_w422 px_w423 px_w94 px_g47) rfl rfl rfl (by decide +kernel) ⟨Nat.le_of_ble_eq_true rfl, Nat.le_of_ble_eq_true rfl⟩) ⟨fun a U g mk q => by obtain ⟨q0, q1, qP, qK, qD, qN⟩ := q; exact ⟨q0, q1, qP, va_K.moved (u := U) (U := U.calling g mk a) (Vm.Alike.refl U.vm) qK, qD, qN.same rfl⟩, va_recv hK hP (ci := 8) (q0 := 0) rfl rfl, fun U hU hW => ⟨rfl, by rw [hU], by rw [hU]; exact hPc, va_K.moved hW.alike hKc, hDc.weaken (fun _ _ _ _ => trivial), hN.warm hW⟩⟩ rfl rfl hl.1 rfl (lv_room (Nat.le_of_ble_eq_true rfl)) px_d53_170 ⟨(Nat.le_of_ble_eq_true rfl), (Nat.le_of_ble_eq_true rfl)⟩) hS (fun q _ h => hFc q h) hFc (fun r9 u t H1 locs ht hvm hw hB hz1 hk1 hS => ?_)
        obtain ⟨k170_5, v4⟩ := u
        obtain ⟨hr9, hw⟩ := hw
        subst hr9
        obtain ⟨hP1, hK1, hD1⟩ := hB
        rw [ht] at hP1
        obtain ⟨hP, hD⟩ := va_joinQ (wr := [((px_rf hh rf) 9, .inl (c_small, 156, .inl g_small))]) (w1 := [(h0, .inr (8, px_mf (px_rf hh rf) v4)), ((px_rf hh rf) 8, .inl (c_work, 156, .inr (.inr (.inr (.inr (fun k => some (hh k)))))))]) hP hD [0, 1] [2] rfl rfl (by decide) (by decide) hk1 hFc hP1 hD1
        generalize H1 = H at hP hS ⊢
        have hP : va_P (dC, dI) vwCl (([((px_rf hh rf) 9, .inl (c_small, 156, .inl g_small)), (h0, .inr (8, px_mf (px_rf hh rf) v4)), ((px_rf hh rf) 8, .inl (c_work, 156, .inr (.inr (.inr (.inr (fun k => some (hh k)))))))] : va_W) ++ px_np hh qq cN nv) H := hP
        have hD : va_D A (([((px_rf hh rf) 9, .inl (c_small, 156, .inl g_small)), (h0, .inr (8, px_mf (px_rf hh rf) v4)), ((px_rf hh rf) 8, .inl (c_work, 156, .inr (.inr (.inr (.inr (fun k => some (hh k)))))))] : va_W) ++ px_np hh qq cN nv) := hD
        refine W.eq (g2 := F0 m 173 ls (.ref (hh k170_5) :: [.ref (hh 192)])) rfl ?_
        have hP := hP.part (cx := [(h0, .inr (8, px_mf (px_rf hh rf) v4)), ((px_rf hh rf) 8, .inl (c_work, 156, .inr (.inr (.inr (.inr (fun k => some (hh k))))))), ((px_rf hh rf) 9, .inl (c_small, 156, .inl g_small))]) [1, 2, 0] rfl
        have hD := hD.part (cx := [(h0, .inr (8, px_mf (px_rf hh rf) v4)), ((px_rf hh rf) 8, .inl (c_work, 156, .inr (.inr (.inr (.inr (fun k => some (hh k))))))), ((px_rf hh rf) 9, .inl (c_small, 156, .inl g_small))]) [1, 2, 0] (by decide) rfl
        refine lv_aload_n hx hb px_d53_173 rfl (lv_at hl 0 rfl) ?_
        refine va_get (D := (dC, dI)) (ci := 8) (v := .ref (hh 197)) (C := "MatroidDeskModel") (T := px_T8) (N := 53) hx hb htw px_in8 hown hK hP 0 rfl rfl 5 (by decide) (htw _ px_w451) (fun _ h9 => h9) rfl px_d53_174 ?_
        obtain ⟨hk177, hw⟩ := hw
        have hPc : va_P (dC, dI) vwCl [(hh 192, .inr (9, [.ref (qq 192), .int ((nv 192).1), .int ((nv 192).2.1)])), (qq 192, .inl (cN, 160, .inl ((nv 192).2.2))), (hh k170_5, .inr (9, [.ref (qq k170_5), .int ((nv k170_5).1), .int ((nv k170_5).2.1)])), (qq k170_5, .inl (cN, 160, .inl ((nv k170_5).2.2))), (hh 197, .inr (9, [.ref (qq 197), .int ((nv 197).1), .int ((nv 197).2.1)])), (qq 197, .inl (cN, 160, .inl ((nv 197).2.2)))] H := px_outP hP [192, k170_5, 197] hk177
        have hDc : va_D A [(hh 192, .inr (9, [.ref (qq 192), .int ((nv 192).1), .int ((nv 192).2.1)])), (qq 192, .inl (cN, 160, .inl ((nv 192).2.2))), (hh k170_5, .inr (9, [.ref (qq k170_5), .int ((nv k170_5).1), .int ((nv k170_5).2.1)])), (qq k170_5, .inl (cN, 160, .inl ((nv k170_5).2.2))), (hh 197, .inr (9, [.ref (qq 197), .int ((nv 197).1), .int ((nv 197).2.1)])), (qq 197, .inl (cN, 160, .inl ((nv 197).2.2)))] := px_outD hD [192, k170_5, 197] hk177
        have hFc : ∀ q, va_A [(hh 192, .inr (9, [.ref (qq 192), .int ((nv 192).1), .int ((nv 192).2.1)])), (qq 192, .inl (cN, 160, .inl ((nv 192).2.2))), (hh k170_5, .inr (9, [.ref (qq k170_5), .int ((nv k170_5).1), .int ((nv k170_5).2.1)])), (qq k170_5, .inl (cN, 160, .inl ((nv k170_5).2.2))), (hh 197, .inr (9, [.ref (qq 197), .int ((nv 197).1), .int ((nv 197).2.1)])), (qq 197, .inl (cN, 160, .inl ((nv 197).2.2)))] H.size q → A q := px_outF hD hS hA [192, k170_5, 197] hk177
        have hKc := hK.sub (tys' := [(cN, .int), (cN, .int), (cN, .int)]) [2, 2, 2] rfl
        refine va_callv (va_runV (As := [.ref (hh k170_5), .ref (hh 197)]) (rest := []) ⟨hx, hb, hml, hown, htw⟩ (npr_met l dC dI H.size (hh 192) (qq 192) (hh k170_5) (qq k170_5) (hh 197) (qq 197) cN cN cN ((nv 192).1) ((nv 192).2.1) ((nv 192).2.2) ((nv k170_5).1) ((nv k170_5).2.1) ((nv k170_5).2.2) ((nv 197).1) ((nv 197).2.1) ((nv 197).2.2) _ hw) (cwV 2 htw (px_gv px_w453 px_w303 px_w304 px_w149 px_g18) rfl rfl rfl (by decide +kernel) ⟨Nat.le_of_ble_eq_true rfl, Nat.le_of_ble_eq_true rfl⟩) ⟨fun a U g mk q => by obtain ⟨q0, q1, qP, qK, qD, qN⟩ := q; exact ⟨q0, q1, qP, va_K.moved (u := U) (U := U.calling g mk a) (Vm.Alike.refl U.vm) qK, qD, qN.same rfl⟩, va_recv hK hPc (ci := 9) (q0 := 0) rfl rfl, fun U hU hW => ⟨rfl, by rw [hU], by rw [hU]; exact hPc, va_K.moved hW.alike hKc, hDc.weaken (fun _ _ _ _ => trivial), hN.warm hW⟩⟩ rfl rfl hl.1 rfl (lv_room (Nat.le_of_ble_eq_true rfl)) px_d53_177 ⟨(Nat.le_of_ble_eq_true rfl), (Nat.le_of_ble_eq_true rfl)⟩) hS (fun q _ h => hFc q h) hFc (fun u t H1 locs ht hvm hw hB hz1 hk1 hS => ?_)
        obtain ⟨v6, v7, v8, v9, v10, v11, v12, v13, v14⟩ := u
        obtain ⟨hP1, hK1, hD1⟩ := hB
        rw [ht] at hP1
        obtain ⟨nv16, env16⟩ : ∃ z : Nat → px_NV, z = px_fold nv [(192, ⟨v6, v7, v8⟩), (k170_5, ⟨v9, v10, v11⟩), (197, ⟨v12, v13, v14⟩)] := ⟨_, rfl⟩
        have hw := hw nv16 env16
        obtain ⟨hP, hD⟩ := px_in hP hD [192, k170_5, 197] hk177 [(192, ⟨v6, v7, v8⟩), (k170_5, ⟨v9, v10, v11⟩), (197, ⟨v12, v13, v14⟩)] rfl hk1 hP1 env16
        generalize H1 = H at hP hS ⊢
        have hP : va_P (dC, dI) vwCl (([(h0, .inr (8, px_mf (px_rf hh rf) v4)), ((px_rf hh rf) 8, .inl (c_work, 156, .inr (.inr (.inr (.inr (fun k => some (hh k))))))), ((px_rf hh rf) 9, .inl (c_small, 156, .inl g_small))] : va_W) ++ px_np hh qq cN nv16) H := hP
        have hD : va_D A (([(h0, .inr (8, px_mf (px_rf hh rf) v4)), ((px_rf hh rf) 8, .inl (c_work, 156, .inr (.inr (.inr (.inr (fun k => some (hh k))))))), ((px_rf hh rf) 9, .inl (c_small, 156, .inl g_small))] : va_W) ++ px_np hh qq cN nv16) := hD
        refine lv_aload_n hx hb px_d53_180 rfl (lv_at hl 0 rfl) ?_
        refine va_get (D := (dC, dI)) (ci := 8) (v := .ref (hh 193)) (C := "MatroidDeskModel") (T := px_T8) (N := 53) hx hb htw px_in8 hown hK hP 0 rfl rfl 1 (by decide) (htw _ px_w419) (fun _ h9 => h9) rfl px_d53_181 ?_
        refine lv_aload_n hx hb px_d53_184 rfl (lv_at hl 0 rfl) ?_
        refine lv_iload_n hx hb px_d53_185 rfl (lv_at hl 2 rfl) ?_
        refine lv_iload hx hb px_d53_186 (lv_at hl 4 rfl) ?_
        have hPc := hP.sub (ws' := [(h0, .inr (8, px_mf (px_rf hh rf) v4)), ((px_rf hh rf) 8, .inl (c_work, 156, .inr (.inr (.inr (.inr (fun k => some (hh k)))))))]) [0, 1] rfl
        have hDc := hD.sub (ws' := [(h0, .inr (8, px_mf (px_rf hh rf) v4)), ((px_rf hh rf) 8, .inl (c_work, 156, .inr (.inr (.inr (.inr (fun k => some (hh k)))))))]) [0, 1] (by decide) rfl
        have hFc := va_free (wc := [(h0, .inr (8, px_mf (px_rf hh rf) v4)), ((px_rf hh rf) 8, .inl (c_work, 156, .inr (.inr (.inr (.inr (fun k => some (hh k)))))))]) hD hS hA [0, 1] rfl
        have hKc := hK.sub (tys' := [(c_work, .object "MatroidDeskModel$Num")]) [0] rfl
        refine va_callq (va_runV (As := [.int x2, .int x4]) (rest := [.ref (hh 193)]) ⟨hx, hb, hml, hown, htw⟩ (w47_met l dC dI H.size h0 rf hh c_work x2 x4 v4 _ hw) (cwV 2 htw (px_gv px_w434 px_w422 px_w423 px_w94 px_g47) rfl rfl rfl (by decide +kernel) ⟨Nat.le_of_ble_eq_true rfl, Nat.le_of_ble_eq_true rfl⟩) ⟨fun a U g mk q => by obtain ⟨q0, q1, qP, qK, qD, qN⟩ := q; exact ⟨q0, q1, qP, va_K.moved (u := U) (U := U.calling g mk a) (Vm.Alike.refl U.vm) qK, qD, qN.same rfl⟩, va_recv hK hP (ci := 8) (q0 := 0) rfl rfl, fun U hU hW => ⟨rfl, by rw [hU], by rw [hU]; exact hPc, va_K.moved hW.alike hKc, hDc.weaken (fun _ _ _ _ => trivial), hN.warm hW⟩⟩ rfl rfl hl.1 rfl (lv_room (Nat.le_of_ble_eq_true rfl)) px_d53_188 ⟨(Nat.le_of_ble_eq_true rfl), (Nat.le_of_ble_eq_true rfl)⟩) hS (fun q _ h => hFc q h) hFc (fun r9 u t H1 locs ht hvm hw hB hz1 hk1 hS => ?_)
        obtain ⟨k188_18, v17⟩ := u
        obtain ⟨hr9, hw⟩ := hw
        subst hr9
        obtain ⟨hP1, hK1, hD1⟩ := hB
        rw [ht] at hP1
        obtain ⟨hP, hD⟩ := va_joinQ (wr := [((px_rf hh rf) 9, .inl (c_small, 156, .inl g_small))]) (w1 := [(h0, .inr (8, px_mf (px_rf hh rf) v17)), ((px_rf hh rf) 8, .inl (c_work, 156, .inr (.inr (.inr (.inr (fun k => some (hh k)))))))]) hP hD [0, 1] [2] rfl rfl (by decide) (by decide) hk1 hFc hP1 hD1
        generalize H1 = H at hP hS ⊢
        have hP : va_P (dC, dI) vwCl (([((px_rf hh rf) 9, .inl (c_small, 156, .inl g_small)), (h0, .inr (8, px_mf (px_rf hh rf) v17)), ((px_rf hh rf) 8, .inl (c_work, 156, .inr (.inr (.inr (.inr (fun k => some (hh k)))))))] : va_W) ++ px_np hh qq cN nv16) H := hP
        have hD : va_D A (([((px_rf hh rf) 9, .inl (c_small, 156, .inl g_small)), (h0, .inr (8, px_mf (px_rf hh rf) v17)), ((px_rf hh rf) 8, .inl (c_work, 156, .inr (.inr (.inr (.inr (fun k => some (hh k)))))))] : va_W) ++ px_np hh qq cN nv16) := hD
        refine W.eq (g2 := F0 m 191 ls (.ref (hh k188_18) :: [.ref (hh 193)])) rfl ?_
        have hP := hP.part (cx := [(h0, .inr (8, px_mf (px_rf hh rf) v17)), ((px_rf hh rf) 8, .inl (c_work, 156, .inr (.inr (.inr (.inr (fun k => some (hh k))))))), ((px_rf hh rf) 9, .inl (c_small, 156, .inl g_small))]) [1, 2, 0] rfl
        have hD := hD.part (cx := [(h0, .inr (8, px_mf (px_rf hh rf) v17)), ((px_rf hh rf) 8, .inl (c_work, 156, .inr (.inr (.inr (.inr (fun k => some (hh k))))))), ((px_rf hh rf) 9, .inl (c_small, 156, .inl g_small))]) [1, 2, 0] (by decide) rfl
        refine lv_aload_n hx hb px_d53_191 rfl (lv_at hl 0 rfl) ?_
        refine va_get (D := (dC, dI)) (ci := 8) (v := .ref (hh 198)) (C := "MatroidDeskModel") (T := px_T8) (N := 53) hx hb htw px_in8 hown hK hP 0 rfl rfl 6 (by decide) (htw _ px_w452) (fun _ h9 => h9) rfl px_d53_192 ?_
        obtain ⟨hk195, hw⟩ := hw
        have hPc : va_P (dC, dI) vwCl [(hh 193, .inr (9, [.ref (qq 193), .int ((nv16 193).1), .int ((nv16 193).2.1)])), (qq 193, .inl (cN, 160, .inl ((nv16 193).2.2))), (hh k188_18, .inr (9, [.ref (qq k188_18), .int ((nv16 k188_18).1), .int ((nv16 k188_18).2.1)])), (qq k188_18, .inl (cN, 160, .inl ((nv16 k188_18).2.2))), (hh 198, .inr (9, [.ref (qq 198), .int ((nv16 198).1), .int ((nv16 198).2.1)])), (qq 198, .inl (cN, 160, .inl ((nv16 198).2.2)))] H := px_outP hP [193, k188_18, 198] hk195
        have hDc : va_D A [(hh 193, .inr (9, [.ref (qq 193), .int ((nv16 193).1), .int ((nv16 193).2.1)])), (qq 193, .inl (cN, 160, .inl ((nv16 193).2.2))), (hh k188_18, .inr (9, [.ref (qq k188_18), .int ((nv16 k188_18).1), .int ((nv16 k188_18).2.1)])), (qq k188_18, .inl (cN, 160, .inl ((nv16 k188_18).2.2))), (hh 198, .inr (9, [.ref (qq 198), .int ((nv16 198).1), .int ((nv16 198).2.1)])), (qq 198, .inl (cN, 160, .inl ((nv16 198).2.2)))] := px_outD hD [193, k188_18, 198] hk195
        have hFc : ∀ q, va_A [(hh 193, .inr (9, [.ref (qq 193), .int ((nv16 193).1), .int ((nv16 193).2.1)])), (qq 193, .inl (cN, 160, .inl ((nv16 193).2.2))), (hh k188_18, .inr (9, [.ref (qq k188_18), .int ((nv16 k188_18).1), .int ((nv16 k188_18).2.1)])), (qq k188_18, .inl (cN, 160, .inl ((nv16 k188_18).2.2))), (hh 198, .inr (9, [.ref (qq 198), .int ((nv16 198).1), .int ((nv16 198).2.1)])), (qq 198, .inl (cN, 160, .inl ((nv16 198).2.2)))] H.size q → A q := px_outF hD hS hA [193, k188_18, 198] hk195
        have hKc := hK.sub (tys' := [(cN, .int), (cN, .int), (cN, .int)]) [2, 2, 2] rfl
        refine va_callv (va_runV (As := [.ref (hh k188_18), .ref (hh 198)]) (rest := []) ⟨hx, hb, hml, hown, htw⟩ (npr_met l dC dI H.size (hh 193) (qq 193) (hh k188_18) (qq k188_18) (hh 198) (qq 198) cN cN cN ((nv16 193).1) ((nv16 193).2.1) ((nv16 193).2.2) ((nv16 k188_18).1) ((nv16 k188_18).2.1) ((nv16 k188_18).2.2) ((nv16 198).1) ((nv16 198).2.1) ((nv16 198).2.2) _ hw) (cwV 2 htw (px_gv px_w453 px_w303 px_w304 px_w149 px_g18) rfl rfl rfl (by decide +kernel) ⟨Nat.le_of_ble_eq_true rfl, Nat.le_of_ble_eq_true rfl⟩) ⟨fun a U g mk q => by obtain ⟨q0, q1, qP, qK, qD, qN⟩ := q; exact ⟨q0, q1, qP, va_K.moved (u := U) (U := U.calling g mk a) (Vm.Alike.refl U.vm) qK, qD, qN.same rfl⟩, va_recv hK hPc (ci := 9) (q0 := 0) rfl rfl, fun U hU hW => ⟨rfl, by rw [hU], by rw [hU]; exact hPc, va_K.moved hW.alike hKc, hDc.weaken (fun _ _ _ _ => trivial), hN.warm hW⟩⟩ rfl rfl hl.1 rfl (lv_room (Nat.le_of_ble_eq_true rfl)) px_d53_195 ⟨(Nat.le_of_ble_eq_true rfl), (Nat.le_of_ble_eq_true rfl)⟩) hS (fun q _ h => hFc q h) hFc (fun u t H1 locs ht hvm hw hB hz1 hk1 hS => ?_)
        obtain ⟨v19, v20, v21, v22, v23, v24, v25, v26, v27⟩ := u
        obtain ⟨hP1, hK1, hD1⟩ := hB
        rw [ht] at hP1
        obtain ⟨nv29, env29⟩ : ∃ z : Nat → px_NV, z = px_fold nv16 [(193, ⟨v19, v20, v21⟩), (k188_18, ⟨v22, v23, v24⟩), (198, ⟨v25, v26, v27⟩)] := ⟨_, rfl⟩
        have hw := hw nv29 env29
        obtain ⟨hP, hD⟩ := px_in hP hD [193, k188_18, 198] hk195 [(193, ⟨v19, v20, v21⟩), (k188_18, ⟨v22, v23, v24⟩), (198, ⟨v25, v26, v27⟩)] rfl hk1 hP1 env29
        generalize H1 = H at hP hS ⊢
        have hP : va_P (dC, dI) vwCl (([(h0, .inr (8, px_mf (px_rf hh rf) v17)), ((px_rf hh rf) 8, .inl (c_work, 156, .inr (.inr (.inr (.inr (fun k => some (hh k))))))), ((px_rf hh rf) 9, .inl (c_small, 156, .inl g_small))] : va_W) ++ px_np hh qq cN nv29) H := hP
        have hD : va_D A (([(h0, .inr (8, px_mf (px_rf hh rf) v17)), ((px_rf hh rf) 8, .inl (c_work, 156, .inr (.inr (.inr (.inr (fun k => some (hh k))))))), ((px_rf hh rf) 9, .inl (c_small, 156, .inl g_small))] : va_W) ++ px_np hh qq cN nv29) := hD
        refine lv_aload_n hx hb px_d53_198 rfl (lv_at hl 0 rfl) ?_
        refine lv_iload_n hx hb px_d53_199 rfl (lv_at hl 1 rfl) ?_
        refine lv_iload hx hb px_d53_200 (lv_at hl 4 rfl) ?_
        have hPc := hP.sub (ws' := [(h0, .inr (8, px_mf (px_rf hh rf) v17)), ((px_rf hh rf) 8, .inl (c_work, 156, .inr (.inr (.inr (.inr (fun k => some (hh k)))))))]) [0, 1] rfl
        have hDc := hD.sub (ws' := [(h0, .inr (8, px_mf (px_rf hh rf) v17)), ((px_rf hh rf) 8, .inl (c_work, 156, .inr (.inr (.inr (.inr (fun k => some (hh k)))))))]) [0, 1] (by decide) rfl
        have hFc := va_free (wc := [(h0, .inr (8, px_mf (px_rf hh rf) v17)), ((px_rf hh rf) 8, .inl (c_work, 156, .inr (.inr (.inr (.inr (fun k => some (hh k)))))))]) hD hS hA [0, 1] rfl
        have hKc := hK.sub (tys' := [(c_work, .object "MatroidDeskModel$Num")]) [0] rfl
        refine va_callq (va_runV (As := [.int x1, .int x4]) (rest := []) ⟨hx, hb, hml, hown, htw⟩ (w47_met l dC dI H.size h0 rf hh c_work x1 x4 v17 _ hw) (cwV 2 htw (px_gv px_w434 px_w422 px_w423 px_w94 px_g47) rfl rfl rfl (by decide +kernel) ⟨Nat.le_of_ble_eq_true rfl, Nat.le_of_ble_eq_true rfl⟩) ⟨fun a U g mk q => by obtain ⟨q0, q1, qP, qK, qD, qN⟩ := q; exact ⟨q0, q1, qP, va_K.moved (u := U) (U := U.calling g mk a) (Vm.Alike.refl U.vm) qK, qD, qN.same rfl⟩, va_recv hK hP (ci := 8) (q0 := 0) rfl rfl, fun U hU hW => ⟨rfl, by rw [hU], by rw [hU]; exact hPc, va_K.moved hW.alike hKc, hDc.weaken (fun _ _ _ _ => trivial), hN.warm hW⟩⟩ rfl rfl hl.1 rfl (lv_room (Nat.le_of_ble_eq_true rfl)) px_d53_202 ⟨(Nat.le_of_ble_eq_true rfl), (Nat.le_of_ble_eq_true rfl)⟩) hS (fun q _ h => hFc q h) hFc (fun r9 u t H1 locs ht hvm hw hB hz1 hk1 hS => ?_)
        obtain ⟨k202_31, v30⟩ := u
        obtain ⟨hr9, hw⟩ := hw
        subst hr9
        obtain ⟨hP1, hK1, hD1⟩ := hB
        rw [ht] at hP1
        obtain ⟨hP, hD⟩ := va_joinQ (wr := [((px_rf hh rf) 9, .inl (c_small, 156, .inl g_small))]) (w1 := [(h0, .inr (8, px_mf (px_rf hh rf) v30)), ((px_rf hh rf) 8, .inl (c_work, 156, .inr (.inr (.inr (.inr (fun k => some (hh k)))))))]) hP hD [0, 1] [2] rfl rfl (by decide) (by decide) hk1 hFc hP1 hD1
        generalize H1 = H at hP hS ⊢
        have hP : va_P (dC, dI) vwCl (([((px_rf hh rf) 9, .inl (c_small, 156, .inl g_small)), (h0, .inr (8, px_mf (px_rf hh rf) v30)), ((px_rf hh rf) 8, .inl (c_work, 156, .inr (.inr (.inr (.inr (fun k => some (hh k)))))))] : va_W) ++ px_np hh qq cN nv29) H := hP
        have hD : va_D A (([((px_rf hh rf) 9, .inl (c_small, 156, .inl g_small)), (h0, .inr (8, px_mf (px_rf hh rf) v30)), ((px_rf hh rf) 8, .inl (c_work, 156, .inr (.inr (.inr (.inr (fun k => some (hh k)))))))] : va_W) ++ px_np hh qq cN nv29) := hD
        refine W.eq (g2 := F0 m 205 ls (.ref (hh k202_31) :: [])) rfl ?_
        have hP := hP.part (cx := [(h0, .inr (8, px_mf (px_rf hh rf) v30)), ((px_rf hh rf) 8, .inl (c_work, 156, .inr (.inr (.inr (.inr (fun k => some (hh k))))))), ((px_rf hh rf) 9, .inl (c_small, 156, .inl g_small))]) [1, 2, 0] rfl
        have hD := hD.part (cx := [(h0, .inr (8, px_mf (px_rf hh rf) v30)), ((px_rf hh rf) 8, .inl (c_work, 156, .inr (.inr (.inr (.inr (fun k => some (hh k))))))), ((px_rf hh rf) 9, .inl (c_small, 156, .inl g_small))]) [1, 2, 0] (by decide) rfl
        refine lv_aload_n hx hb px_d53_205 rfl (lv_at hl 0 rfl) ?_
        refine va_get (D := (dC, dI)) (ci := 8) (v := .ref (hh 192)) (C := "MatroidDeskModel") (T := px_T8) (N := 53) hx hb htw px_in8 hown hK hP 0 rfl rfl 0 (by decide) (htw _ px_w443) (fun _ h9 => h9) rfl px_d53_206 ?_
        refine lv_aload_n hx hb px_d53_209 rfl (lv_at hl 0 rfl) ?_
        refine va_get (D := (dC, dI)) (ci := 8) (v := .ref (hh 193)) (C := "MatroidDeskModel") (T := px_T8) (N := 53) hx hb htw px_in8 hown hK hP 0 rfl rfl 1 (by decide) (htw _ px_w419) (fun _ h9 => h9) rfl px_d53_210 ?_
        obtain ⟨hp213, hw⟩ := hw
        have hPc := hP.part (cx := []) [] rfl
        have hDc := hD.part (cx := []) [] (by decide) rfl
        have hFc := va_freeP (cx := []) hD hS hA [] rfl
        have hKc := hK.sub (tys' := [(cN, .int)]) [2] rfl
        refine va_callv (va_runV (As := [.ref (hh 192), .ref (hh 193)]) (rest := []) ⟨hx, hb, hml, hown, htw⟩ (w17_met l dC dI H.size k202_31 hh qq cN 192 193 nv29 _ hw) (cwV 2 htw (px_gv px_w454 px_w297 px_w298 px_w149 px_g17) rfl rfl rfl (by decide +kernel) ⟨Nat.le_of_ble_eq_true rfl, Nat.le_of_ble_eq_true rfl⟩) ⟨fun a U g mk q => by obtain ⟨q0, q1, qP, qK, qD, qN⟩ := q; exact ⟨q0, q1, qP, va_K.moved (u := U) (U := U.calling g mk a) (Vm.Alike.refl U.vm) qK, qD, qN.same rfl⟩, va_recv hK hP (ci := 9) (q0 := (3 + k202_31)) rfl (px_go rfl hp213), fun U hU hW => ⟨rfl, by rw [hU], by rw [hU]; exact hPc, va_K.moved hW.alike hKc, hDc.weaken (fun _ _ _ _ => trivial), hN.warm hW⟩⟩ rfl rfl hl.1 rfl (lv_room (Nat.le_of_ble_eq_true rfl)) px_d53_213 ⟨(Nat.le_of_ble_eq_true rfl), (Nat.le_of_ble_eq_true rfl)⟩) hS (fun q _ h => hFc q h) hFc (fun u t H1 locs ht hvm hw hB hz1 hk1 hS => ?_)
        obtain ⟨v32, rfl⟩ : ∃ z, z = u := ⟨_, rfl⟩
        obtain ⟨hP1, hK1, hD1⟩ := hB
        rw [ht] at hP1
        obtain ⟨hP, hD⟩ := va_joinP (wr := [(h0, .inr (8, px_mf (px_rf hh rf) v30)), ((px_rf hh rf) 8, .inl (c_work, 156, .inr (.inr (.inr (.inr (fun k => some (hh k))))))), ((px_rf hh rf) 9, .inl (c_small, 156, .inl g_small))]) (rx := []) hP hD [] [0, 1, 2] rfl rfl (by decide) (by decide) hk1 hFc hP1 hD1
        generalize H1 = H at hP hS ⊢
        have hP : va_P (dC, dI) vwCl (([(h0, .inr (8, px_mf (px_rf hh rf) v30)), ((px_rf hh rf) 8, .inl (c_work, 156, .inr (.inr (.inr (.inr (fun k => some (hh k))))))), ((px_rf hh rf) 9, .inl (c_small, 156, .inl g_small))] : va_W) ++ px_np hh qq cN v32) H := hP
        have hD : va_D A (([(h0, .inr (8, px_mf (px_rf hh rf) v30)), ((px_rf hh rf) 8, .inl (c_work, 156, .inr (.inr (.inr (.inr (fun k => some (hh k))))))), ((px_rf hh rf) 9, .inl (c_small, 156, .inl g_small))] : va_W) ++ px_np hh qq cN v32) := hD
        obtain ⟨z34, ez34⟩ : ∃ y : Int32, y = x4 + 1 := ⟨_, rfl⟩
        have hw := hw z34 ez34
        refine lv_iinc (v := z34) (lv' := [(4, .int z34), (0, .ref h0), (1, .int x1), (2, .int x2), (3, .int x3)]) hx hb px_d53_216 hl (k := 4) rfl (by rw [ez34]; rfl) (by decide) rfl (fun ls hl => ?_)
        refine lv_goto (tgt := 153) hx hb px_d53_219 (by decide) ?_
        exact ih153 x1 x2 x3 z34 v30 g_small v32 H locs ls hP hD hS (lv_sub hl [1, 2, 3, 4, 0] rfl) hw
  have S44 : ∀ (k44 : Nat) (x1 : Int32) (x2 : Int32) (x3 : Int32) (x4 : Int32) (x5 : Int32) (iv : Nat → Int32) (g_small : Nat → Int32) (nv : Nat → px_NV) (H : Heap) (locs : List Loc) (ls : Array Slot), va_P (dC, dI) vwCl (([(h0, .inr (8, px_mf (px_rf hh rf) iv)), ((px_rf hh rf) 8, .inl (c_work, 156, .inr (.inr (.inr (.inr (fun k => some (hh k))))))), ((px_rf hh rf) 9, .inl (c_small, 156, .inl g_small))] : va_W) ++ px_np hh qq cN nv) H → va_D A (([(h0, .inr (8, px_mf (px_rf hh rf) iv)), ((px_rf hh rf) 8, .inl (c_work, 156, .inr (.inr (.inr (.inr (fun k => some (hh k))))))), ((px_rf hh rf) 9, .inl (c_small, 156, .inl g_small))] : va_W) ++ px_np hh qq cN nv) → va_S A s.heap H locs → lv_has ls 7 [(0, .ref h0), (1, .int x1), (2, .int x2), (3, .int x3), (4, .int x4), (5, .int x5)] → w53_L44 post k44 x1 x2 x3 x4 x5 iv g_small nv → W p l e (headSpec px_s53 ({ frames := 5, cells := 0, slots := 0, locals := 124 })).room s m ([.ref h0, .int a1x, .int a2x, .int a3x]).toArray below meth c H locs 0 0 Q (F0 m 44 ls []) := by
    intro k44
    induction k44 with
    | zero => intro x1 x2 x3 x4 x5 iv g_small nv H locs ls hP hD hS hl hw; exact False.elim hw
    | succ k44 ih44 =>
      have S116 : ∀ (x1 : Int32) (x2 : Int32) (x3 : Int32) (x4 : Int32) (x5 : Int32) (x6 : Int32) (y0 : Int32) (y1 : Int32) (iv : Nat → Int32) (g_small : Nat → Int32) (nv : Nat → px_NV) (H : Heap) (locs : List Loc) (ls : Array Slot), va_P (dC, dI) vwCl (([(h0, .inr (8, px_mf (px_rf hh rf) iv)), ((px_rf hh rf) 8, .inl (c_work, 156, .inr (.inr (.inr (.inr (fun k => some (hh k))))))), ((px_rf hh rf) 9, .inl (c_small, 156, .inl g_small))] : va_W) ++ px_np hh qq cN nv) H → va_D A (([(h0, .inr (8, px_mf (px_rf hh rf) iv)), ((px_rf hh rf) 8, .inl (c_work, 156, .inr (.inr (.inr (.inr (fun k => some (hh k))))))), ((px_rf hh rf) 9, .inl (c_small, 156, .inl g_small))] : va_W) ++ px_np hh qq cN nv) → va_S A s.heap H locs → lv_has ls 7 [(0, .ref h0), (1, .int x1), (2, .int x2), (3, .int x3), (4, .int x4), (5, .int x5), (6, .int x6)] → w53_L116 (w53_L44 post k44) post x1 x2 x3 x4 x5 x6 y0 y1 iv g_small nv → W p l e (headSpec px_s53 ({ frames := 5, cells := 0, slots := 0, locals := 124 })).room s m ([.ref h0, .int a1x, .int a2x, .int a3x]).toArray below meth c H locs 0 0 Q (F0 m 116 ls [.int y0, .int y1, .ref ((px_rf hh rf) 9)]) := by
        intro x1 x2 x3 x4 x5 x6 y0 y1 iv g_small nv H locs ls hP hD hS hl hw
        unfold w53_L116 at hw
        obtain ⟨hi116, hw⟩ := hw
        refine va_iast hx hb hK hP hD hS 2 1 rfl rfl hi116 px_d53_116 (fun H locs hP hD hS => ?_)
        have hP : va_P (dC, dI) vwCl (([(h0, .inr (8, px_mf (px_rf hh rf) iv)), ((px_rf hh rf) 8, .inl (c_work, 156, .inr (.inr (.inr (.inr (fun k => some (hh k))))))), ((px_rf hh rf) 9, .inl (c_small, 156, .inl (upd g_small (Int32.toNatClampNeg y1) y0)))] : va_W) ++ px_np hh qq cN nv) H := hP
        have hD : va_D A (([(h0, .inr (8, px_mf (px_rf hh rf) iv)), ((px_rf hh rf) 8, .inl (c_work, 156, .inr (.inr (.inr (.inr (fun k => some (hh k))))))), ((px_rf hh rf) 9, .inl (c_small, 156, .inl (upd g_small (Int32.toNatClampNeg y1) y0)))] : va_W) ++ px_np hh qq cN nv) := hD
        obtain ⟨z35, ez35⟩ : ∃ y : Int32, y = x5 + 1 := ⟨_, rfl⟩
        have hw := hw z35 ez35
        refine lv_iinc (v := z35) (lv' := [(5, .int z35), (0, .ref h0), (1, .int x1), (2, .int x2), (3, .int x3), (4, .int x4), (6, .int x6)]) hx hb px_d53_117 hl (k := 5) rfl (by rw [ez35]; rfl) (by decide) rfl (fun ls hl => ?_)
        refine lv_goto (tgt := 44) hx hb px_d53_120 (by decide) ?_
        exact ih44 x1 x2 x3 x4 z35 iv (upd g_small (Int32.toNatClampNeg y1) y0) nv H locs ls hP hD hS (lv_sub hl [1, 2, 3, 4, 5, 0] rfl) hw
      intro x1 x2 x3 x4 x5 iv g_small nv H locs ls hP hD hS hl hw
      unfold w53_L44 at hw
      refine lv_iload hx hb px_d53_44 (lv_at hl 5 rfl) ?_
      refine lv_aload_n hx hb px_d53_46 rfl (lv_at hl 0 rfl) ?_
      refine va_get (D := (dC, dI)) (ci := 8) (v := .int (iv 11)) (C := "MatroidDeskModel") (T := px_T8) (N := 53) hx hb htw px_in8 hown hK hP 0 rfl rfl 11 (by decide) (htw _ px_w429) (fun _ h9 => h9) rfl px_d53_47 ?_
      refine lv_icmp_ge (tgt := 123) hx hb px_d53_50 (by decide) (fun c50 => ?_) (fun c50 => ?_)
      · have hw := hw.1 c50
        rw [← hQ]
        exact W.vret hx hb hr (fun t ht hW => ⟨⟨(iv, g_small, nv), rfl, hw, by rw [ht]; exact hP, va_K.moved hW.alike hK, hD⟩, hS.F ht⟩) hS.2.2 px_d53_123
      · have hw := hw.2 c50
        refine lv_aload_n hx hb px_d53_53 rfl (lv_at hl 0 rfl) ?_
        refine va_get (D := (dC, dI)) (ci := 8) (v := .ref ((px_rf hh rf) 9)) (C := "MatroidDeskModel") (T := px_T8) (N := 53) hx hb htw px_in8 hown hK hP 0 rfl rfl 9 (by decide) (htw _ px_w436) (fun _ h9 => h9) rfl px_d53_54 ?_
        refine lv_bipush (v := 12) hx hb px_d53_57 (by decide) ?_
        refine lv_iload_n hx hb px_d53_59 rfl (lv_at hl 1 rfl) ?_
        refine lv_imul hx hb px_d53_60 ?_
        refine lv_iload hx hb px_d53_61 (lv_at hl 5 rfl) ?_
        refine lv_iadd hx hb px_d53_63 ?_
        obtain ⟨hi64, hw⟩ := hw
        refine va_iald hx hb hK hP 2 1 rfl rfl hi64 px_d53_64 ?_
        refine lv_iload hx hb px_d53_65 (lv_at hl 4 rfl) ?_
        refine lv_aload_n hx hb px_d53_67 rfl (lv_at hl 0 rfl) ?_
        refine va_get (D := (dC, dI)) (ci := 8) (v := .ref ((px_rf hh rf) 9)) (C := "MatroidDeskModel") (T := px_T8) (N := 53) hx hb htw px_in8 hown hK hP 0 rfl rfl 9 (by decide) (htw _ px_w436) (fun _ h9 => h9) rfl px_d53_68 ?_
        refine lv_bipush (v := 12) hx hb px_d53_71 (by decide) ?_
        refine lv_iload_n hx hb px_d53_73 rfl (lv_at hl 2 rfl) ?_
        refine lv_imul hx hb px_d53_74 ?_
        refine lv_iload hx hb px_d53_75 (lv_at hl 5 rfl) ?_
        refine lv_iadd hx hb px_d53_77 ?_
        obtain ⟨hi78, hw⟩ := hw
        refine va_iald hx hb hK hP 2 1 rfl rfl hi78 px_d53_78 ?_
        refine lv_imul hx hb px_d53_79 ?_
        refine lv_aload_n hx hb px_d53_80 rfl (lv_at hl 0 rfl) ?_
        refine va_get (D := (dC, dI)) (ci := 8) (v := .int (iv 12)) (C := "MatroidDeskModel") (T := px_T8) (N := 53) hx hb htw px_in8 hown hK hP 0 rfl rfl 12 (by decide) (htw _ px_w428) (fun _ h9 => h9) rfl px_d53_81 ?_
        obtain ⟨hd84, hw⟩ := hw
        refine lv_irem hx hb px_d53_84 hd84 ?_
        refine lv_isub hx hb px_d53_85 ?_
        refine lv_topi (fun z36 ez36 => ?_)
        have hw := hw z36 ez36
        refine lv_istore (lv' := [(6, .int z36), (0, .ref h0), (1, .int x1), (2, .int x2), (3, .int x3), (4, .int x4), (5, .int x5)]) hx hb px_d53_86 hl (by decide) rfl (fun ls hl => ?_)
        refine lv_aload_n hx hb px_d53_88 rfl (lv_at hl 1 rfl) ?_
        refine va_get (D := (dC, dI)) (ci := 8) (v := .ref ((px_rf hh rf) 9)) (C := "MatroidDeskModel") (T := px_T8) (N := 53) hx hb htw px_in8 hown hK hP 0 rfl rfl 9 (by decide) (htw _ px_w436) (fun _ h9 => h9) rfl px_d53_89 ?_
        refine lv_bipush (v := 12) hx hb px_d53_92 (by decide) ?_
        refine lv_iload_n hx hb px_d53_94 rfl (lv_at hl 2 rfl) ?_
        refine lv_imul hx hb px_d53_95 ?_
        refine lv_iload hx hb px_d53_96 (lv_at hl 6 rfl) ?_
        refine lv_iadd hx hb px_d53_98 ?_
        refine lv_iload hx hb px_d53_99 (lv_at hl 0 rfl) ?_
        refine lv_if_ge (tgt := 114) hx hb px_d53_101 (by decide) (fun c101 => ?_) (fun c101 => ?_)
        · have hw := hw.1 c101
          refine lv_iload hx hb px_d53_114 (lv_at hl 0 rfl) ?_
          exact S116 x1 x2 x3 x4 x5 z36 z36 ((12 * x1) + x5) iv g_small nv H locs ls hP hD hS (lv_sub hl [1, 2, 3, 4, 5, 6, 0] rfl) hw
        · have hw := hw.2 c101
          refine lv_iload hx hb px_d53_104 (lv_at hl 0 rfl) ?_
          refine lv_aload_n hx hb px_d53_106 rfl (lv_at hl 1 rfl) ?_
          refine va_get (D := (dC, dI)) (ci := 8) (v := .int (iv 12)) (C := "MatroidDeskModel") (T := px_T8) (N := 53) hx hb htw px_in8 hown hK hP 0 rfl rfl 12 (by decide) (htw _ px_w428) (fun _ h9 => h9) rfl px_d53_107 ?_
          refine lv_iadd hx hb px_d53_110 ?_
          refine lv_goto (tgt := 116) hx hb px_d53_111 (by decide) ?_
          exact S116 x1 x2 x3 x4 x5 z36 (z36 + (iv 12)) ((12 * x1) + x5) iv g_small nv H locs ls hP hD hS (lv_sub hl [1, 2, 3, 4, 5, 6, 0] rfl) hw
  unfold w53_wp at hw
  have hS0 := hS
  obtain ⟨H, hH9⟩ : ∃ z, z = s.heap := ⟨_, rfl⟩
  have hP : va_P (dC, dI) vwCl (([(h0, .inr (8, px_mf (px_rf hh rf) iv)), ((px_rf hh rf) 8, .inl (c_work, 156, .inr (.inr (.inr (.inr (fun k => some (hh k))))))), ((px_rf hh rf) 9, .inl (c_small, 156, .inl g_small))] : va_W) ++ px_np hh qq cN nv) H := by rw [hH9]; exact hP
  obtain ⟨locs, hlo9⟩ : ∃ z : List Loc, z = [] := ⟨_, rfl⟩
  have hS : va_S A s.heap H locs := by rw [hH9, hlo9]; exact hS
  suffices hG : W p l e (headSpec px_s53 ({ frames := 5, cells := 0, slots := 0, locals := 124 })).room s m ([.ref h0, .int a1x, .int a2x, .int a3x]).toArray below meth c H locs 0 0 Q (F0 m 0 ls []) by rw [hH9, hlo9] at hG; exact hG
  refine lv_aload_n hx hb px_d53_0 rfl (lv_at hl 0 rfl) ?_
  refine va_get (D := (dC, dI)) (ci := 8) (v := .int (iv 12)) (C := "MatroidDeskModel") (T := px_T8) (N := 53) hx hb htw px_in8 hown hK hP 0 rfl rfl 12 (by decide) (htw _ px_w428) (fun _ h9 => h9) rfl px_d53_1 ?_
  refine lv_if_le (tgt := 124) hx hb px_d53_4 (by decide) (fun c4 => ?_) (fun c4 => ?_)
  · have hw := hw.1 c4
    refine lv_aload_n hx hb px_d53_124 rfl (lv_at hl 0 rfl) ?_
    refine va_get (D := (dC, dI)) (ci := 8) (v := .ref (hh 197)) (C := "MatroidDeskModel") (T := px_T8) (N := 53) hx hb htw px_in8 hown hK hP 0 rfl rfl 5 (by decide) (htw _ px_w451) (fun _ h9 => h9) rfl px_d53_125 ?_
    refine lv_aload_n hx hb px_d53_128 rfl (lv_at hl 0 rfl) ?_
    refine lv_iload_n hx hb px_d53_129 rfl (lv_at hl 2 rfl) ?_
    refine lv_iload_n hx hb px_d53_130 rfl (lv_at hl 3 rfl) ?_
    have hPc := hP.sub (ws' := [(h0, .inr (8, px_mf (px_rf hh rf) iv)), ((px_rf hh rf) 8, .inl (c_work, 156, .inr (.inr (.inr (.inr (fun k => some (hh k)))))))]) [0, 1] rfl
    have hDc := hD.sub (ws' := [(h0, .inr (8, px_mf (px_rf hh rf) iv)), ((px_rf hh rf) 8, .inl (c_work, 156, .inr (.inr (.inr (.inr (fun k => some (hh k)))))))]) [0, 1] (by decide) rfl
    have hFc := va_free (wc := [(h0, .inr (8, px_mf (px_rf hh rf) iv)), ((px_rf hh rf) 8, .inl (c_work, 156, .inr (.inr (.inr (.inr (fun k => some (hh k)))))))]) hD hS hA [0, 1] rfl
    have hKc := hK.sub (tys' := [(c_work, .object "MatroidDeskModel$Num")]) [0] rfl
    refine va_callq (va_runV (As := [.int a2x, .int a3x]) (rest := [.ref (hh 197)]) ⟨hx, hb, hml, hown, htw⟩ (w47_met l dC dI H.size h0 rf hh c_work a2x a3x iv _ hw) (cwV 2 htw (px_gv px_w434 px_w422 px_w423 px_w94 px_g47) rfl rfl rfl (by decide +kernel) ⟨Nat.le_of_ble_eq_true rfl, Nat.le_of_ble_eq_true rfl⟩) ⟨fun a U g mk q => by obtain ⟨q0, q1, qP, qK, qD, qN⟩ := q; exact ⟨q0, q1, qP, va_K.moved (u := U) (U := U.calling g mk a) (Vm.Alike.refl U.vm) qK, qD, qN.same rfl⟩, va_recv hK hP (ci := 8) (q0 := 0) rfl rfl, fun U hU hW => ⟨rfl, by rw [hU], by rw [hU]; exact hPc, va_K.moved hW.alike hKc, hDc.weaken (fun _ _ _ _ => trivial), hN.warm hW⟩⟩ rfl rfl hl.1 rfl (lv_room (Nat.le_of_ble_eq_true rfl)) px_d53_131 ⟨(Nat.le_of_ble_eq_true rfl), (Nat.le_of_ble_eq_true rfl)⟩) hS (fun q _ h => hFc q h) hFc (fun r9 u t H1 locs ht hvm hw hB hz1 hk1 hS => ?_)
    obtain ⟨k131_38, v37⟩ := u
    obtain ⟨hr9, hw⟩ := hw
    subst hr9
    obtain ⟨hP1, hK1, hD1⟩ := hB
    rw [ht] at hP1
    obtain ⟨hP, hD⟩ := va_joinQ (wr := [((px_rf hh rf) 9, .inl (c_small, 156, .inl g_small))]) (w1 := [(h0, .inr (8, px_mf (px_rf hh rf) v37)), ((px_rf hh rf) 8, .inl (c_work, 156, .inr (.inr (.inr (.inr (fun k => some (hh k)))))))]) hP hD [0, 1] [2] rfl rfl (by decide) (by decide) hk1 hFc hP1 hD1
    generalize H1 = H at hP hS ⊢
    have hP : va_P (dC, dI) vwCl (([((px_rf hh rf) 9, .inl (c_small, 156, .inl g_small)), (h0, .inr (8, px_mf (px_rf hh rf) v37)), ((px_rf hh rf) 8, .inl (c_work, 156, .inr (.inr (.inr (.inr (fun k => some (hh k)))))))] : va_W) ++ px_np hh qq cN nv) H := hP
    have hD : va_D A (([((px_rf hh rf) 9, .inl (c_small, 156, .inl g_small)), (h0, .inr (8, px_mf (px_rf hh rf) v37)), ((px_rf hh rf) 8, .inl (c_work, 156, .inr (.inr (.inr (.inr (fun k => some (hh k)))))))] : va_W) ++ px_np hh qq cN nv) := hD
    refine W.eq (g2 := F0 m 134 ls (.ref (hh k131_38) :: [.ref (hh 197)])) rfl ?_
    have hP := hP.part (cx := [(h0, .inr (8, px_mf (px_rf hh rf) v37)), ((px_rf hh rf) 8, .inl (c_work, 156, .inr (.inr (.inr (.inr (fun k => some (hh k))))))), ((px_rf hh rf) 9, .inl (c_small, 156, .inl g_small))]) [1, 2, 0] rfl
    have hD := hD.part (cx := [(h0, .inr (8, px_mf (px_rf hh rf) v37)), ((px_rf hh rf) 8, .inl (c_work, 156, .inr (.inr (.inr (.inr (fun k => some (hh k))))))), ((px_rf hh rf) 9, .inl (c_small, 156, .inl g_small))]) [1, 2, 0] (by decide) rfl
    obtain ⟨hk134, hw⟩ := hw
    have hPc : va_P (dC, dI) vwCl [(hh 197, .inr (9, [.ref (qq 197), .int ((nv 197).1), .int ((nv 197).2.1)])), (qq 197, .inl (cN, 160, .inl ((nv 197).2.2))), (hh k131_38, .inr (9, [.ref (qq k131_38), .int ((nv k131_38).1), .int ((nv k131_38).2.1)])), (qq k131_38, .inl (cN, 160, .inl ((nv k131_38).2.2)))] H := px_outP hP [197, k131_38] hk134
    have hDc : va_D A [(hh 197, .inr (9, [.ref (qq 197), .int ((nv 197).1), .int ((nv 197).2.1)])), (qq 197, .inl (cN, 160, .inl ((nv 197).2.2))), (hh k131_38, .inr (9, [.ref (qq k131_38), .int ((nv k131_38).1), .int ((nv k131_38).2.1)])), (qq k131_38, .inl (cN, 160, .inl ((nv k131_38).2.2)))] := px_outD hD [197, k131_38] hk134
    have hFc : ∀ q, va_A [(hh 197, .inr (9, [.ref (qq 197), .int ((nv 197).1), .int ((nv 197).2.1)])), (qq 197, .inl (cN, 160, .inl ((nv 197).2.2))), (hh k131_38, .inr (9, [.ref (qq k131_38), .int ((nv k131_38).1), .int ((nv k131_38).2.1)])), (qq k131_38, .inl (cN, 160, .inl ((nv k131_38).2.2)))] H.size q → A q := px_outF hD hS hA [197, k131_38] hk134
    have hKc := hK.sub (tys' := [(cN, .int), (cN, .int)]) [2, 2] rfl
    refine va_callv (va_runV (As := [.ref (hh k131_38)]) (rest := []) ⟨hx, hb, hml, hown, htw⟩ (ncp_met l dC dI H.size (hh 197) (qq 197) (hh k131_38) (qq k131_38) cN cN ((nv 197).1) ((nv 197).2.1) ((nv 197).2.2) ((nv k131_38).1) ((nv k131_38).2.1) ((nv k131_38).2.2) _ hw) (cwV 1 htw (px_gv px_w414 px_w274 px_w275 px_w149 px_g10) rfl rfl rfl (by decide +kernel) ⟨Nat.le_of_ble_eq_true rfl, Nat.le_of_ble_eq_true rfl⟩) ⟨fun a U g mk q => by obtain ⟨q0, q1, qP, qK, qD, qN⟩ := q; exact ⟨q0, q1, qP, va_K.moved (u := U) (U := U.calling g mk a) (Vm.Alike.refl U.vm) qK, qD, qN.same rfl⟩, va_recv hK hPc (ci := 9) (q0 := 0) rfl rfl, fun U hU hW => ⟨rfl, by rw [hU], by rw [hU]; exact hPc, va_K.moved hW.alike hKc, hDc.weaken (fun _ _ _ _ => trivial), hN.warm hW⟩⟩ rfl rfl hl.1 rfl (lv_room (Nat.le_of_ble_eq_true rfl)) px_d53_134 ⟨(Nat.le_of_ble_eq_true rfl), (Nat.le_of_ble_eq_true rfl)⟩) hS (fun q _ h => hFc q h) hFc (fun u t H1 locs ht hvm hw hB hz1 hk1 hS => ?_)
    obtain ⟨v39, v40, v41, v42, v43, v44⟩ := u
    obtain ⟨hP1, hK1, hD1⟩ := hB
    rw [ht] at hP1
    obtain ⟨nv46, env46⟩ : ∃ z : Nat → px_NV, z = px_fold nv [(197, ⟨v39, v40, v41⟩), (k131_38, ⟨v42, v43, v44⟩)] := ⟨_, rfl⟩
    have hw := hw nv46 env46
    obtain ⟨hP, hD⟩ := px_in hP hD [197, k131_38] hk134 [(197, ⟨v39, v40, v41⟩), (k131_38, ⟨v42, v43, v44⟩)] rfl hk1 hP1 env46
    generalize H1 = H at hP hS ⊢
    have hP : va_P (dC, dI) vwCl (([(h0, .inr (8, px_mf (px_rf hh rf) v37)), ((px_rf hh rf) 8, .inl (c_work, 156, .inr (.inr (.inr (.inr (fun k => some (hh k))))))), ((px_rf hh rf) 9, .inl (c_small, 156, .inl g_small))] : va_W) ++ px_np hh qq cN nv46) H := hP
    have hD : va_D A (([(h0, .inr (8, px_mf (px_rf hh rf) v37)), ((px_rf hh rf) 8, .inl (c_work, 156, .inr (.inr (.inr (.inr (fun k => some (hh k))))))), ((px_rf hh rf) 9, .inl (c_small, 156, .inl g_small))] : va_W) ++ px_np hh qq cN nv46) := hD
    refine lv_aload_n hx hb px_d53_137 rfl (lv_at hl 0 rfl) ?_
    refine va_get (D := (dC, dI)) (ci := 8) (v := .ref (hh 198)) (C := "MatroidDeskModel") (T := px_T8) (N := 53) hx hb htw px_in8 hown hK hP 0 rfl rfl 6 (by decide) (htw _ px_w452) (fun _ h9 => h9) rfl px_d53_138 ?_
    refine lv_aload_n hx hb px_d53_141 rfl (lv_at hl 0 rfl) ?_
    refine lv_iload_n hx hb px_d53_142 rfl (lv_at hl 1 rfl) ?_
    refine lv_iload_n hx hb px_d53_143 rfl (lv_at hl 3 rfl) ?_
    have hPc := hP.sub (ws' := [(h0, .inr (8, px_mf (px_rf hh rf) v37)), ((px_rf hh rf) 8, .inl (c_work, 156, .inr (.inr (.inr (.inr (fun k => some (hh k)))))))]) [0, 1] rfl
    have hDc := hD.sub (ws' := [(h0, .inr (8, px_mf (px_rf hh rf) v37)), ((px_rf hh rf) 8, .inl (c_work, 156, .inr (.inr (.inr (.inr (fun k => some (hh k)))))))]) [0, 1] (by decide) rfl
    have hFc := va_free (wc := [(h0, .inr (8, px_mf (px_rf hh rf) v37)), ((px_rf hh rf) 8, .inl (c_work, 156, .inr (.inr (.inr (.inr (fun k => some (hh k)))))))]) hD hS hA [0, 1] rfl
    have hKc := hK.sub (tys' := [(c_work, .object "MatroidDeskModel$Num")]) [0] rfl
    refine va_callq (va_runV (As := [.int a1x, .int a3x]) (rest := [.ref (hh 198)]) ⟨hx, hb, hml, hown, htw⟩ (w47_met l dC dI H.size h0 rf hh c_work a1x a3x v37 _ hw) (cwV 2 htw (px_gv px_w434 px_w422 px_w423 px_w94 px_g47) rfl rfl rfl (by decide +kernel) ⟨Nat.le_of_ble_eq_true rfl, Nat.le_of_ble_eq_true rfl⟩) ⟨fun a U g mk q => by obtain ⟨q0, q1, qP, qK, qD, qN⟩ := q; exact ⟨q0, q1, qP, va_K.moved (u := U) (U := U.calling g mk a) (Vm.Alike.refl U.vm) qK, qD, qN.same rfl⟩, va_recv hK hP (ci := 8) (q0 := 0) rfl rfl, fun U hU hW => ⟨rfl, by rw [hU], by rw [hU]; exact hPc, va_K.moved hW.alike hKc, hDc.weaken (fun _ _ _ _ => trivial), hN.warm hW⟩⟩ rfl rfl hl.1 rfl (lv_room (Nat.le_of_ble_eq_true rfl)) px_d53_144 ⟨(Nat.le_of_ble_eq_true rfl), (Nat.le_of_ble_eq_true rfl)⟩) hS (fun q _ h => hFc q h) hFc (fun r9 u t H1 locs ht hvm hw hB hz1 hk1 hS => ?_)
    obtain ⟨k144_48, v47⟩ := u
    obtain ⟨hr9, hw⟩ := hw
    subst hr9
    obtain ⟨hP1, hK1, hD1⟩ := hB
    rw [ht] at hP1
    obtain ⟨hP, hD⟩ := va_joinQ (wr := [((px_rf hh rf) 9, .inl (c_small, 156, .inl g_small))]) (w1 := [(h0, .inr (8, px_mf (px_rf hh rf) v47)), ((px_rf hh rf) 8, .inl (c_work, 156, .inr (.inr (.inr (.inr (fun k => some (hh k)))))))]) hP hD [0, 1] [2] rfl rfl (by decide) (by decide) hk1 hFc hP1 hD1
    generalize H1 = H at hP hS ⊢
    have hP : va_P (dC, dI) vwCl (([((px_rf hh rf) 9, .inl (c_small, 156, .inl g_small)), (h0, .inr (8, px_mf (px_rf hh rf) v47)), ((px_rf hh rf) 8, .inl (c_work, 156, .inr (.inr (.inr (.inr (fun k => some (hh k)))))))] : va_W) ++ px_np hh qq cN nv46) H := hP
    have hD : va_D A (([((px_rf hh rf) 9, .inl (c_small, 156, .inl g_small)), (h0, .inr (8, px_mf (px_rf hh rf) v47)), ((px_rf hh rf) 8, .inl (c_work, 156, .inr (.inr (.inr (.inr (fun k => some (hh k)))))))] : va_W) ++ px_np hh qq cN nv46) := hD
    refine W.eq (g2 := F0 m 147 ls (.ref (hh k144_48) :: [.ref (hh 198)])) rfl ?_
    have hP := hP.part (cx := [(h0, .inr (8, px_mf (px_rf hh rf) v47)), ((px_rf hh rf) 8, .inl (c_work, 156, .inr (.inr (.inr (.inr (fun k => some (hh k))))))), ((px_rf hh rf) 9, .inl (c_small, 156, .inl g_small))]) [1, 2, 0] rfl
    have hD := hD.part (cx := [(h0, .inr (8, px_mf (px_rf hh rf) v47)), ((px_rf hh rf) 8, .inl (c_work, 156, .inr (.inr (.inr (.inr (fun k => some (hh k))))))), ((px_rf hh rf) 9, .inl (c_small, 156, .inl g_small))]) [1, 2, 0] (by decide) rfl
    obtain ⟨hk147, hw⟩ := hw
    have hPc : va_P (dC, dI) vwCl [(hh 198, .inr (9, [.ref (qq 198), .int ((nv46 198).1), .int ((nv46 198).2.1)])), (qq 198, .inl (cN, 160, .inl ((nv46 198).2.2))), (hh k144_48, .inr (9, [.ref (qq k144_48), .int ((nv46 k144_48).1), .int ((nv46 k144_48).2.1)])), (qq k144_48, .inl (cN, 160, .inl ((nv46 k144_48).2.2)))] H := px_outP hP [198, k144_48] hk147
    have hDc : va_D A [(hh 198, .inr (9, [.ref (qq 198), .int ((nv46 198).1), .int ((nv46 198).2.1)])), (qq 198, .inl (cN, 160, .inl ((nv46 198).2.2))), (hh k144_48, .inr (9, [.ref (qq k144_48), .int ((nv46 k144_48).1), .int ((nv46 k144_48).2.1)])), (qq k144_48, .inl (cN, 160, .inl ((nv46 k144_48).2.2)))] := px_outD hD [198, k144_48] hk147
    have hFc : ∀ q, va_A [(hh 198, .inr (9, [.ref (qq 198), .int ((nv46 198).1), .int ((nv46 198).2.1)])), (qq 198, .inl (cN, 160, .inl ((nv46 198).2.2))), (hh k144_48, .inr (9, [.ref (qq k144_48), .int ((nv46 k144_48).1), .int ((nv46 k144_48).2.1)])), (qq k144_48, .inl (cN, 160, .inl ((nv46 k144_48).2.2)))] H.size q → A q := px_outF hD hS hA [198, k144_48] hk147
    have hKc := hK.sub (tys' := [(cN, .int), (cN, .int)]) [2, 2] rfl
    refine va_callv (va_runV (As := [.ref (hh k144_48)]) (rest := []) ⟨hx, hb, hml, hown, htw⟩ (ncp_met l dC dI H.size (hh 198) (qq 198) (hh k144_48) (qq k144_48) cN cN ((nv46 198).1) ((nv46 198).2.1) ((nv46 198).2.2) ((nv46 k144_48).1) ((nv46 k144_48).2.1) ((nv46 k144_48).2.2) _ hw) (cwV 1 htw (px_gv px_w414 px_w274 px_w275 px_w149 px_g10) rfl rfl rfl (by decide +kernel) ⟨Nat.le_of_ble_eq_true rfl, Nat.le_of_ble_eq_true rfl⟩) ⟨fun a U g mk q => by obtain ⟨q0, q1, qP, qK, qD, qN⟩ := q; exact ⟨q0, q1, qP, va_K.moved (u := U) (U := U.calling g mk a) (Vm.Alike.refl U.vm) qK, qD, qN.same rfl⟩, va_recv hK hPc (ci := 9) (q0 := 0) rfl rfl, fun U hU hW => ⟨rfl, by rw [hU], by rw [hU]; exact hPc, va_K.moved hW.alike hKc, hDc.weaken (fun _ _ _ _ => trivial), hN.warm hW⟩⟩ rfl rfl hl.1 rfl (lv_room (Nat.le_of_ble_eq_true rfl)) px_d53_147 ⟨(Nat.le_of_ble_eq_true rfl), (Nat.le_of_ble_eq_true rfl)⟩) hS (fun q _ h => hFc q h) hFc (fun u t H1 locs ht hvm hw hB hz1 hk1 hS => ?_)
    obtain ⟨v49, v50, v51, v52, v53, v54⟩ := u
    obtain ⟨hP1, hK1, hD1⟩ := hB
    rw [ht] at hP1
    obtain ⟨nv56, env56⟩ : ∃ z : Nat → px_NV, z = px_fold nv46 [(198, ⟨v49, v50, v51⟩), (k144_48, ⟨v52, v53, v54⟩)] := ⟨_, rfl⟩
    have hw := hw nv56 env56
    obtain ⟨hP, hD⟩ := px_in hP hD [198, k144_48] hk147 [(198, ⟨v49, v50, v51⟩), (k144_48, ⟨v52, v53, v54⟩)] rfl hk1 hP1 env56
    generalize H1 = H at hP hS ⊢
    have hP : va_P (dC, dI) vwCl (([(h0, .inr (8, px_mf (px_rf hh rf) v47)), ((px_rf hh rf) 8, .inl (c_work, 156, .inr (.inr (.inr (.inr (fun k => some (hh k))))))), ((px_rf hh rf) 9, .inl (c_small, 156, .inl g_small))] : va_W) ++ px_np hh qq cN nv56) H := hP
    have hD : va_D A (([(h0, .inr (8, px_mf (px_rf hh rf) v47)), ((px_rf hh rf) 8, .inl (c_work, 156, .inr (.inr (.inr (.inr (fun k => some (hh k))))))), ((px_rf hh rf) 9, .inl (c_small, 156, .inl g_small))] : va_W) ++ px_np hh qq cN nv56) := hD
    refine lv_iconst (v := 0) hx hb px_d53_150 (by decide) ?_
    refine lv_istore (lv' := [(4, .int 0), (0, .ref h0), (1, .int a1x), (2, .int a2x), (3, .int a3x)]) hx hb px_d53_151 hl (by decide) rfl (fun ls hl => ?_)
    obtain ⟨k9, hw⟩ := hw
    exact S153 k9 a1x a2x a3x 0 v47 g_small nv56 H locs ls hP hD hS (lv_sub hl [1, 2, 3, 4, 0] rfl) hw
  · have hw := hw.2 c4
    refine lv_aload_n hx hb px_d53_7 rfl (lv_at hl 0 rfl) ?_
    refine va_get (D := (dC, dI)) (ci := 8) (v := .ref ((px_rf hh rf) 9)) (C := "MatroidDeskModel") (T := px_T8) (N := 53) hx hb htw px_in8 hown hK hP 0 rfl rfl 9 (by decide) (htw _ px_w436) (fun _ h9 => h9) rfl px_d53_8 ?_
    refine lv_bipush (v := 12) hx hb px_d53_11 (by decide) ?_
    refine lv_iload_n hx hb px_d53_13 rfl (lv_at hl 1 rfl) ?_
    refine lv_imul hx hb px_d53_14 ?_
    refine lv_iload_n hx hb px_d53_15 rfl (lv_at hl 3 rfl) ?_
    refine lv_iadd hx hb px_d53_16 ?_
    obtain ⟨hi17, hw⟩ := hw
    refine va_iald hx hb hK hP 2 1 rfl rfl hi17 px_d53_17 ?_
    refine lv_aload_n hx hb px_d53_18 rfl (lv_at hl 0 rfl) ?_
    refine lv_aload_n hx hb px_d53_19 rfl (lv_at hl 0 rfl) ?_
    refine va_get (D := (dC, dI)) (ci := 8) (v := .ref ((px_rf hh rf) 9)) (C := "MatroidDeskModel") (T := px_T8) (N := 53) hx hb htw px_in8 hown hK hP 0 rfl rfl 9 (by decide) (htw _ px_w436) (fun _ h9 => h9) rfl px_d53_20 ?_
    refine lv_bipush (v := 12) hx hb px_d53_23 (by decide) ?_
    refine lv_iload_n hx hb px_d53_25 rfl (lv_at hl 2 rfl) ?_
    refine lv_imul hx hb px_d53_26 ?_
    refine lv_iload_n hx hb px_d53_27 rfl (lv_at hl 3 rfl) ?_
    refine lv_iadd hx hb px_d53_28 ?_
    obtain ⟨hi29, hw⟩ := hw
    refine va_iald hx hb hK hP 2 1 rfl rfl hi29 px_d53_29 ?_
    have hPc := hP.sub (ws' := [(h0, .inr (8, px_mf (px_rf hh rf) iv))]) [0] rfl
    have hDc := hD.sub (ws' := [(h0, .inr (8, px_mf (px_rf hh rf) iv))]) [0] (by decide) rfl
    have hFc := va_free (wc := [(h0, .inr (8, px_mf (px_rf hh rf) iv))]) hD hS hA [0] rfl
    have hKc := hK.sub (tys' := []) [] rfl
    refine va_calli (va_runV (As := [.int (g_small (Int32.toNatClampNeg ((12 * a2x) + a3x)))]) (rest := [.int (g_small (Int32.toNatClampNeg ((12 * a1x) + a3x)))]) ⟨hx, hb, hml, hown, htw⟩ (w52_met l dC dI H.size h0 (px_rf hh rf) (g_small (Int32.toNatClampNeg ((12 * a2x) + a3x))) iv _ hw) (cwV 1 htw (px_gv px_w450 px_w445 px_w446 px_w94 px_g52) rfl rfl rfl (by decide +kernel) ⟨Nat.le_of_ble_eq_true rfl, Nat.le_of_ble_eq_true rfl⟩) ⟨fun a U g mk q => by obtain ⟨q0, q1, qP, qK, qD, qN⟩ := q; exact ⟨q0, q1, qP, va_K.moved (u := U) (U := U.calling g mk a) (Vm.Alike.refl U.vm) qK, qD, qN.same rfl⟩, va_recv hK hP (ci := 8) (q0 := 0) rfl rfl, fun U hU hW => ⟨rfl, by rw [hU], by rw [hU]; exact hPc, va_K.moved hW.alike hKc, hDc.weaken (fun _ _ _ _ => trivial), hN.warm hW⟩⟩ rfl rfl hl.1 rfl (lv_room (Nat.le_of_ble_eq_true rfl)) px_d53_30 ⟨(Nat.le_of_ble_eq_true rfl), (Nat.le_of_ble_eq_true rfl)⟩) hS (fun q _ h => hFc q h) hFc (fun r30 u t H1 locs ht hvm hw hB hz1 hk1 hS => ?_)
    obtain ⟨v57, rfl⟩ : ∃ z, z = u := ⟨_, rfl⟩
    obtain ⟨hP1, hK1, hD1⟩ := hB
    rw [ht] at hP1
    obtain ⟨hP, hD⟩ := va_joinQ (wr := [((px_rf hh rf) 8, .inl (c_work, 156, .inr (.inr (.inr (.inr (fun k => some (hh k))))))), ((px_rf hh rf) 9, .inl (c_small, 156, .inl g_small))]) (w1 := [(h0, .inr (8, px_mf (px_rf hh rf) v57))]) hP hD [0] [1, 2] rfl rfl (by decide) (by decide) hk1 hFc hP1 hD1
    generalize H1 = H at hP hS ⊢
    have hP : va_P (dC, dI) vwCl (([((px_rf hh rf) 8, .inl (c_work, 156, .inr (.inr (.inr (.inr (fun k => some (hh k))))))), ((px_rf hh rf) 9, .inl (c_small, 156, .inl g_small)), (h0, .inr (8, px_mf (px_rf hh rf) v57))] : va_W) ++ px_np hh qq cN nv) H := hP
    have hD : va_D A (([((px_rf hh rf) 8, .inl (c_work, 156, .inr (.inr (.inr (.inr (fun k => some (hh k))))))), ((px_rf hh rf) 9, .inl (c_small, 156, .inl g_small)), (h0, .inr (8, px_mf (px_rf hh rf) v57))] : va_W) ++ px_np hh qq cN nv) := hD
    have hP := hP.part (cx := [(h0, .inr (8, px_mf (px_rf hh rf) v57)), ((px_rf hh rf) 8, .inl (c_work, 156, .inr (.inr (.inr (.inr (fun k => some (hh k))))))), ((px_rf hh rf) 9, .inl (c_small, 156, .inl g_small))]) [2, 0, 1] rfl
    have hD := hD.part (cx := [(h0, .inr (8, px_mf (px_rf hh rf) v57)), ((px_rf hh rf) 8, .inl (c_work, 156, .inr (.inr (.inr (.inr (fun k => some (hh k))))))), ((px_rf hh rf) 9, .inl (c_small, 156, .inl g_small))]) [2, 0, 1] (by decide) rfl
    refine lv_imul hx hb px_d53_33 ?_
    refine lv_aload_n hx hb px_d53_34 rfl (lv_at hl 0 rfl) ?_
    refine va_get (D := (dC, dI)) (ci := 8) (v := .int (v57 12)) (C := "MatroidDeskModel") (T := px_T8) (N := 53) hx hb htw px_in8 hown hK hP 0 rfl rfl 12 (by decide) (htw _ px_w428) (fun _ h9 => h9) rfl px_d53_35 ?_
    obtain ⟨hd38, hw⟩ := hw
    refine lv_irem hx hb px_d53_38 hd38 ?_
    refine lv_topi (fun z59 ez59 => ?_)
    have hw := hw z59 ez59
    refine lv_istore (lv' := [(4, .int z59), (0, .ref h0), (1, .int a1x), (2, .int a2x), (3, .int a3x)]) hx hb px_d53_39 hl (by decide) rfl (fun ls hl => ?_)
    refine lv_iconst (v := 0) hx hb px_d53_41 (by decide) ?_
    refine lv_istore (lv' := [(5, .int 0), (4, .int z59), (0, .ref h0), (1, .int a1x), (2, .int a2x), (3, .int a3x)]) hx hb px_d53_42 hl (by decide) rfl (fun ls hl => ?_)
    obtain ⟨k9, hw⟩ := hw
    exact S44 k9 a1x a2x a3x z59 0 v57 g_small nv H locs ls hP hD hS (lv_sub hl [2, 3, 4, 5, 1, 0] rfl) hw

