/-! MatroidDeskModel.putNum(LMatroidDeskModel$Num;)V -/
def w107_L141 (a1x : Nat) (post : (Nat → Int32) → (Nat → Int32) → (Nat → Int32) → (Nat → px_NV) → Prop) : Nat → Int32 → (Nat → Int32) → (Nat → Int32) → (Nat → Int32) → (Nat → px_NV) → Prop
  | 0 => fun _ _ _ _ _ => False
  | k + 1 => fun x2 iv g_sheet g_decimals nv => (x2 ≤ 0 → post iv g_sheet g_decimals nv) ∧ (¬ x2 ≤ 0 → ∀ z1 : Int32, z1 = x2 + (-1) → vp_in z1 200 ∧ ((mpu_wp (fun v2 v3 => (w107_L141 a1x post k) z1 v2 v3 g_decimals nv) (g_decimals (Int32.toNatClampNeg z1)) iv g_sheet)))
def w107_L68 (K45 : Int32 → (Nat → Int32) → (Nat → Int32) → (Nat → Int32) → (Nat → px_NV) → Prop) (a1x : Nat) (post : (Nat → Int32) → (Nat → Int32) → (Nat → Int32) → (Nat → px_NV) → Prop) : Nat → Int32 → Int32 → Int32 → (Nat → Int32) → (Nat → Int32) → (Nat → Int32) → (Nat → px_NV) → Prop
  | 0 => fun _ _ _ _ _ _ _ => False
  | k + 1 => fun x2 x3 x4 iv g_sheet g_decimals nv => (x4 < 0 → px_ix [196] ∧ (nt_wp (fun v5 v6 v7 => ∀ nv9 : Nat → px_NV, nv9 = px_fold nv [(196, ⟨v5, v6, v7⟩)] → (vp_in x2 200 ∧ (∀ z10 : Int32, z10 = x2 + 1 → K45 z10 iv g_sheet (upd g_decimals (Int32.toNatClampNeg x2) (vp_nar .byte ((48 + x3).toInt8.toInt32))) nv9))) ((nv 196).1) ((nv 196).2.1) ((nv 196).2.2))) ∧ (¬ x4 < 0 → ((vp_in x4 160 ∧ (∀ z11 : Int32, z11 = (65536 * x3) + ((nv 196).2.2 (Int32.toNatClampNeg x4)) → (∀ z12 : Int32, z12 = z11 / 10 → (vp_in x4 160 ∧ (∀ nv13 : Nat → px_NV, nv13 = va_up nv 196 ⟨(nv 196).1, (nv 196).2.1, upd (nv 196).2.2 (Int32.toNatClampNeg x4) z12⟩ → (∀ z14 : Int32, z14 = z11 - z11 / 10 * 10 → ∀ z15 : Int32, z15 = x4 + (-1) → (w107_L68 K45 a1x post k) x2 z14 z15 iv g_sheet g_decimals nv13))))))))
def w107_L45 (a1x : Nat) (post : (Nat → Int32) → (Nat → Int32) → (Nat → Int32) → (Nat → px_NV) → Prop) : Nat → Int32 → (Nat → Int32) → (Nat → Int32) → (Nat → Int32) → (Nat → px_NV) → Prop
  | 0 => fun _ _ _ _ _ => False
  | k + 1 => fun x2 iv g_sheet g_decimals nv => ((((nv 196).1) ≤ 0 → ∃ j141, w107_L141 a1x post j141 x2 iv g_sheet g_decimals nv) ∧ (¬ ((nv 196).1) ≤ 0 → (∀ z16 : Int32, z16 = ((nv 196).1) - 1 → ∃ j68, w107_L68 (w107_L45 a1x post k) a1x post j68 x2 0 z16 iv g_sheet g_decimals nv)))
def w107_L27 (a1x : Nat) (post : (Nat → Int32) → (Nat → Int32) → (Nat → Int32) → (Nat → px_NV) → Prop) (iv : Nat → Int32) (g_sheet : Nat → Int32) (g_decimals : Nat → Int32) (nv : Nat → px_NV) : Prop := px_ix [196, a1x] ∧ (ncp_wp (fun v17 v18 v19 v20 v21 v22 => ∀ nv24 : Nat → px_NV, nv24 = px_fold nv [(196, ⟨v17, v18, v19⟩), (a1x, ⟨v20, v21, v22⟩)] → (((∀ nv25 : Nat → px_NV, nv25 = va_up nv24 196 ⟨(nv24 196).1, 0, (nv24 196).2.2⟩ → (∃ j45, w107_L45 a1x post j45 0 iv g_sheet g_decimals nv25))))) ((nv 196).1) ((nv 196).2.1) ((nv 196).2.2) ((nv a1x).1) ((nv a1x).2.1) ((nv a1x).2.2))
def w107_wp (a1x : Nat) (post : (Nat → Int32) → (Nat → Int32) → (Nat → Int32) → (Nat → px_NV) → Prop) (iv : Nat → Int32) (g_sheet : Nat → Int32) (g_decimals : Nat → Int32) (nv : Nat → px_NV) : Prop := a1x < 200 ∧ ((¬ ((nv a1x).1) = 0 → a1x < 200 ∧ ((((nv a1x).2.1) = 0 → w107_L27 a1x post iv g_sheet g_decimals nv) ∧ (¬ ((nv a1x).2.1) = 0 → (mpu_wp (fun v26 v27 => w107_L27 a1x post v26 v27 g_decimals nv) 45 iv g_sheet)))) ∧ (((nv a1x).1) = 0 → (mpu_wp (fun v29 v30 => post v29 v30 g_decimals nv) 48 iv g_sheet)))
set_option maxHeartbeats 8000000 in
set_option maxRecDepth 100000 in
theorem w107_met (l : Launch) (dC : Nat → ClassId) (dI : Nat → Nat → Nat) (sz : Nat) (h0 : Nat) (rf : Nat → Nat) (hh : Nat → Nat) (qq : Nat → Nat) (cN : ClassId) (a1x : Nat) (c_sheet : ClassId) (c_decimals : ClassId) (iv : Nat → Int32) (g_sheet : Nat → Int32) (g_decimals : Nat → Int32) (nv : Nat → px_NV) (post : (Nat → Int32) → (Nat → Int32) → (Nat → Int32) → (Nat → px_NV) → Prop) (hw : w107_wp a1x post iv g_sheet g_decimals nv) : Met l px_y107 px_s107 ({ frames := 2, cells := 0, slots := 0, locals := 44 }) (va_Pc [.ref h0, .ref (hh a1x)] (fun U => U.heap.size = sz ∧ va_P (dC, dI) vwCl ([(h0, .inr (8, px_mf (px_rf hh rf) iv)), ((px_rf hh rf) 46, .inl (c_sheet, 65536, .inl g_sheet)), ((px_rf hh rf) 48, .inl (c_decimals, 200, .inl g_decimals))] ++ px_np hh qq cN nv) U.heap ∧ va_K (dC, dI) vwCl [(c_sheet, .byte), (c_decimals, .byte), (cN, .int)] U ∧ va_D (fun _ => True) ([(h0, .inr (8, px_mf (px_rf hh rf) iv)), ((px_rf hh rf) 46, .inl (c_sheet, 65536, .inl g_sheet)), ((px_rf hh rf) 48, .inl (c_decimals, 200, .inl g_decimals))] ++ px_np hh qq cN nv) ∧ px_N U)) (va_Qv (fun (u : (Nat → Int32) × (Nat → Int32) × (Nat → Int32) × (Nat → px_NV)) => post u.1 u.2.1 u.2.2.1 u.2.2.2) (fun (u : (Nat → Int32) × (Nat → Int32) × (Nat → Int32) × (Nat → px_NV)) (t : State) => va_P (dC, dI) vwCl ([(h0, .inr (8, px_mf (px_rf hh rf) u.1)), ((px_rf hh rf) 46, .inl (c_sheet, 65536, .inl u.2.1)), ((px_rf hh rf) 48, .inl (c_decimals, 200, .inl u.2.2.1))] ++ px_np hh qq cN u.2.2.2) t.heap ∧ va_K (dC, dI) vwCl [(c_sheet, .byte), (c_decimals, .byte), (cN, .int)] t ∧ va_D (va_A ([(h0, .inr (8, px_mf (px_rf hh rf) iv)), ((px_rf hh rf) 46, .inl (c_sheet, 65536, .inl g_sheet)), ((px_rf hh rf) 48, .inl (c_decimals, 200, .inl g_decimals))] ++ px_np hh qq cN nv) sz) ([(h0, .inr (8, px_mf (px_rf hh rf) u.1)), ((px_rf hh rf) 46, .inl (c_sheet, 65536, .inl u.2.1)), ((px_rf hh rf) 48, .inl (c_decimals, 200, .inl u.2.2.1))] ++ px_np hh qq cN u.2.2.2)) (va_A ([(h0, .inr (8, px_mf (px_rf hh rf) iv)), ((px_rf hh rf) 46, .inl (c_sheet, 65536, .inl g_sheet)), ((px_rf hh rf) 48, .inl (c_decimals, 200, .inl g_decimals))] ++ px_np hh qq cN nv) sz)) 0 0 (va_A ([(h0, .inr (8, px_mf (px_rf hh rf) iv)), ((px_rf hh rf) 46, .inl (c_sheet, 65536, .inl g_sheet)), ((px_rf hh rf) 48, .inl (c_decimals, 200, .inl g_decimals))] ++ px_np hh qq cN nv) sz) := by
  refine Met.ofW (cc := prog_15_method_78_code) (maxL := 6) (ret := none) (by decide) rfl ?_
  intro p e s m args below meth c s₁ B hml hv
  obtain ⟨rfl, hsz, hP, hK, hD0, hN⟩ := hv
  have hx := B.exec
  have hb := B.bytes
  have hr := B.returns
  have htw : ∀ w ∈ px_all, w.before _ s = true := fun w h => atoms_spec (ws := px_s107) B.pre w (List.mem_cons_of_mem _ h)
  have hown : s.vm.findClass "MatroidDeskModel" = some m.cls := findClass_of_methodNamed B.named
  have hlocks := B.notSynchronized
  subst hsz
  have hD := hD0.self (sz := s.heap.size)
  generalize hAe : va_A ([(h0, .inr (8, px_mf (px_rf hh rf) iv)), ((px_rf hh rf) 46, .inl (c_sheet, 65536, .inl g_sheet)), ((px_rf hh rf) 48, .inl (c_decimals, 200, .inl g_decimals))] ++ px_np hh qq cN nv) s.heap.size = A at hD ⊢
  have hA : ∀ q : Nat, s.heap.size ≤ q → A q := fun q h => by rw [← hAe]; exact Or.inr h
  have hS : va_S A s.heap s.heap [] := va_S.rf
  have hP : va_P (dC, dI) vwCl ([(h0, .inr (8, px_mf (px_rf hh rf) iv)), ((px_rf hh rf) 46, .inl (c_sheet, 65536, .inl g_sheet)), ((px_rf hh rf) 48, .inl (c_decimals, 200, .inl g_decimals))] ++ px_np hh qq cN nv) s.heap := hP
  have hl := lv_entry ([.ref h0, .ref (hh a1x)]) (n := 6) (Nat.le_of_ble_eq_true rfl)
  rw [lg_entry_eq]
  generalize (lg_sl ([.ref h0, .ref (hh a1x)]) ++ List.replicate (6 - (lg_sl ([.ref h0, .ref (hh a1x)])).length) Slot.unset).toArray = ls at hl ⊢
  have hl : lv_has ls 6 [(0, .ref h0), (1, .ref (hh a1x))] := hl
  generalize hQ : MQ _ _ _ _ _ _ _ = Q
  have S141 : ∀ (k141 : Nat) (x2 : Int32) (iv : Nat → Int32) (g_sheet : Nat → Int32) (g_decimals : Nat → Int32) (nv : Nat → px_NV) (H : Heap) (locs : List Loc) (ls : Array Slot), va_P (dC, dI) vwCl ([(h0, .inr (8, px_mf (px_rf hh rf) iv)), ((px_rf hh rf) 46, .inl (c_sheet, 65536, .inl g_sheet)), ((px_rf hh rf) 48, .inl (c_decimals, 200, .inl g_decimals))] ++ px_np hh qq cN nv) H → va_D A ([(h0, .inr (8, px_mf (px_rf hh rf) iv)), ((px_rf hh rf) 46, .inl (c_sheet, 65536, .inl g_sheet)), ((px_rf hh rf) 48, .inl (c_decimals, 200, .inl g_decimals))] ++ px_np hh qq cN nv) → va_S A s.heap H locs → lv_has ls 6 [(0, .ref h0), (1, .ref (hh a1x)), (2, .int x2)] → w107_L141 a1x post k141 x2 iv g_sheet g_decimals nv → W p l e (headSpec px_s107 ({ frames := 2, cells := 0, slots := 0, locals := 44 })).room s m ([.ref h0, .ref (hh a1x)]).toArray below meth c H locs 0 0 Q (F0 m 141 ls []) := by
    intro k141
    induction k141 with
    | zero => intro x2 iv g_sheet g_decimals nv H locs ls hP hD hS hl hw; exact False.elim hw
    | succ k141 ih141 =>
      intro x2 iv g_sheet g_decimals nv H locs ls hP hD hS hl hw
      unfold w107_L141 at hw
      refine lv_iload_n hx hb px_d107_141 rfl (lv_at hl 2 rfl) ?_
      refine lv_if_le (tgt := 161) hx hb px_d107_142 (by decide) (fun c142 => ?_) (fun c142 => ?_)
      · have hw := hw.1 c142
        rw [← hQ]
        exact W.vret hx hb hr (fun t ht hW => ⟨⟨(iv, g_sheet, g_decimals, nv), rfl, hw, by rw [ht]; exact hP, va_K.moved hW.alike hK, hD⟩, hS.F ht⟩) hS.2.2 px_d107_161
      · have hw := hw.2 c142
        obtain ⟨z1, ez1⟩ : ∃ y : Int32, y = x2 + (-1) := ⟨_, rfl⟩
        have hw := hw z1 ez1
        refine lv_iinc (v := z1) (lv' := [(2, .int z1), (0, .ref h0), (1, .ref (hh a1x))]) hx hb px_d107_145 hl (k := 2) rfl (by rw [ez1]; rfl) (by decide) rfl (fun ls hl => ?_)
        refine lv_aload_n hx hb px_d107_148 rfl (lv_at hl 1 rfl) ?_
        refine lv_aload_n hx hb px_d107_149 rfl (lv_at hl 1 rfl) ?_
        refine va_get (D := (dC, dI)) (ci := 8) (v := .ref ((px_rf hh rf) 48)) (C := "MatroidDeskModel") (T := px_T8) (N := 53) hx hb htw px_in8 hown hK hP 0 rfl rfl 48 (by decide) (htw _ px_w521) (fun _ h9 => h9) rfl px_d107_150 ?_
        refine lv_iload_n hx hb px_d107_153 rfl (lv_at hl 0 rfl) ?_
        obtain ⟨hi154, hw⟩ := hw
        refine va_bald hx hb hK hP 2 1 rfl rfl hi154 px_d107_154 ?_
        have hPc := hP.sub (ws' := [(h0, .inr (8, px_mf (px_rf hh rf) iv)), ((px_rf hh rf) 46, .inl (c_sheet, 65536, .inl g_sheet))]) [0, 1] rfl
        have hDc := hD.sub (ws' := [(h0, .inr (8, px_mf (px_rf hh rf) iv)), ((px_rf hh rf) 46, .inl (c_sheet, 65536, .inl g_sheet))]) [0, 1] (by decide) rfl
        have hFc := va_free (wc := [(h0, .inr (8, px_mf (px_rf hh rf) iv)), ((px_rf hh rf) 46, .inl (c_sheet, 65536, .inl g_sheet))]) hD hS hA [0, 1] rfl
        have hKc := hK.sub (tys' := [(c_sheet, .byte)]) [0] rfl
        refine va_callv (va_runV (As := [.int (g_decimals (Int32.toNatClampNeg z1))]) (rest := []) ⟨hx, hb, hml, hown, htw⟩ (mpu_met l dC dI H.size h0 (px_rf hh rf) c_sheet (g_decimals (Int32.toNatClampNeg z1)) iv g_sheet _ hw) (cwV 1 htw (px_gv px_w700 px_w375 px_w376 px_w94 px_g37) rfl rfl rfl (by decide +kernel) ⟨Nat.le_of_ble_eq_true rfl, Nat.le_of_ble_eq_true rfl⟩) ⟨fun a U g mk q => by obtain ⟨q0, q1, qP, qK, qD, qN⟩ := q; exact ⟨q0, q1, qP, va_K.moved (u := U) (U := U.calling g mk a) (Vm.Alike.refl U.vm) qK, qD, qN.same rfl⟩, va_recv hK hP (ci := 8) (q0 := 0) rfl rfl, fun U hU hW => ⟨rfl, by rw [hU], by rw [hU]; exact hPc, va_K.moved hW.alike hKc, hDc.weaken (fun _ _ _ _ => trivial), hN.warm hW⟩⟩ rfl rfl hl.1 rfl (lv_room (Nat.le_of_ble_eq_true rfl)) px_d107_155 ⟨(Nat.le_of_ble_eq_true rfl), (Nat.le_of_ble_eq_true rfl)⟩) hS (fun q _ h => hFc q h) hFc (fun u t H1 locs ht hvm hw hB hz1 hk1 hS => ?_)
        obtain ⟨v2, v3⟩ := u
        obtain ⟨hP1, hK1, hD1⟩ := hB
        rw [ht] at hP1
        obtain ⟨hP, hD⟩ := va_joinQ (wr := [((px_rf hh rf) 48, .inl (c_decimals, 200, .inl g_decimals))]) (w1 := [(h0, .inr (8, px_mf (px_rf hh rf) v2)), ((px_rf hh rf) 46, .inl (c_sheet, 65536, .inl v3))]) hP hD [0, 1] [2] rfl rfl (by decide) (by decide) hk1 hFc hP1 hD1
        generalize H1 = H at hP hS ⊢
        have hP : va_P (dC, dI) vwCl ([((px_rf hh rf) 48, .inl (c_decimals, 200, .inl g_decimals)), (h0, .inr (8, px_mf (px_rf hh rf) v2)), ((px_rf hh rf) 46, .inl (c_sheet, 65536, .inl v3))] ++ px_np hh qq cN nv) H := hP
        have hD : va_D A ([((px_rf hh rf) 48, .inl (c_decimals, 200, .inl g_decimals)), (h0, .inr (8, px_mf (px_rf hh rf) v2)), ((px_rf hh rf) 46, .inl (c_sheet, 65536, .inl v3))] ++ px_np hh qq cN nv) := hD
        have hP := hP.part (cx := [(h0, .inr (8, px_mf (px_rf hh rf) v2)), ((px_rf hh rf) 46, .inl (c_sheet, 65536, .inl v3)), ((px_rf hh rf) 48, .inl (c_decimals, 200, .inl g_decimals))]) [1, 2, 0] rfl
        have hD := hD.part (cx := [(h0, .inr (8, px_mf (px_rf hh rf) v2)), ((px_rf hh rf) 46, .inl (c_sheet, 65536, .inl v3)), ((px_rf hh rf) 48, .inl (c_decimals, 200, .inl g_decimals))]) [1, 2, 0] (by decide) rfl
        refine lv_goto (tgt := 141) hx hb px_d107_158 (by decide) ?_
        exact ih141 z1 v2 v3 g_decimals nv H locs ls hP hD hS (lv_sub hl [1, 2, 0] rfl) hw
  have S45 : ∀ (k45 : Nat) (x2 : Int32) (iv : Nat → Int32) (g_sheet : Nat → Int32) (g_decimals : Nat → Int32) (nv : Nat → px_NV) (H : Heap) (locs : List Loc) (ls : Array Slot), va_P (dC, dI) vwCl ([(h0, .inr (8, px_mf (px_rf hh rf) iv)), ((px_rf hh rf) 46, .inl (c_sheet, 65536, .inl g_sheet)), ((px_rf hh rf) 48, .inl (c_decimals, 200, .inl g_decimals))] ++ px_np hh qq cN nv) H → va_D A ([(h0, .inr (8, px_mf (px_rf hh rf) iv)), ((px_rf hh rf) 46, .inl (c_sheet, 65536, .inl g_sheet)), ((px_rf hh rf) 48, .inl (c_decimals, 200, .inl g_decimals))] ++ px_np hh qq cN nv) → va_S A s.heap H locs → lv_has ls 6 [(0, .ref h0), (1, .ref (hh a1x)), (2, .int x2)] → w107_L45 a1x post k45 x2 iv g_sheet g_decimals nv → W p l e (headSpec px_s107 ({ frames := 2, cells := 0, slots := 0, locals := 44 })).room s m ([.ref h0, .ref (hh a1x)]).toArray below meth c H locs 0 0 Q (F0 m 45 ls []) := by
    intro k45
    induction k45 with
    | zero => intro x2 iv g_sheet g_decimals nv H locs ls hP hD hS hl hw; exact False.elim hw
    | succ k45 ih45 =>
      have S68 : ∀ (k68 : Nat) (x2 : Int32) (x3 : Int32) (x4 : Int32) (iv : Nat → Int32) (g_sheet : Nat → Int32) (g_decimals : Nat → Int32) (nv : Nat → px_NV) (H : Heap) (locs : List Loc) (ls : Array Slot), va_P (dC, dI) vwCl ([(h0, .inr (8, px_mf (px_rf hh rf) iv)), ((px_rf hh rf) 46, .inl (c_sheet, 65536, .inl g_sheet)), ((px_rf hh rf) 48, .inl (c_decimals, 200, .inl g_decimals))] ++ px_np hh qq cN nv) H → va_D A ([(h0, .inr (8, px_mf (px_rf hh rf) iv)), ((px_rf hh rf) 46, .inl (c_sheet, 65536, .inl g_sheet)), ((px_rf hh rf) 48, .inl (c_decimals, 200, .inl g_decimals))] ++ px_np hh qq cN nv) → va_S A s.heap H locs → lv_has ls 6 [(0, .ref h0), (1, .ref (hh a1x)), (2, .int x2), (3, .int x3), (4, .int x4)] → w107_L68 (w107_L45 a1x post k45) a1x post k68 x2 x3 x4 iv g_sheet g_decimals nv → W p l e (headSpec px_s107 ({ frames := 2, cells := 0, slots := 0, locals := 44 })).room s m ([.ref h0, .ref (hh a1x)]).toArray below meth c H locs 0 0 Q (F0 m 68 ls []) := by
        intro k68
        induction k68 with
        | zero => intro x2 x3 x4 iv g_sheet g_decimals nv H locs ls hP hD hS hl hw; exact False.elim hw
        | succ k68 ih68 =>
          intro x2 x3 x4 iv g_sheet g_decimals nv H locs ls hP hD hS hl hw
          unfold w107_L68 at hw
          refine lv_iload hx hb px_d107_68 (lv_at hl 4 rfl) ?_
          refine lv_if_lt (tgt := 117) hx hb px_d107_70 (by decide) (fun c70 => ?_) (fun c70 => ?_)
          · have hw := hw.1 c70
            refine lv_aload_n hx hb px_d107_117 rfl (lv_at hl 0 rfl) ?_
            refine va_get (D := (dC, dI)) (ci := 8) (v := .ref (hh 196)) (C := "MatroidDeskModel") (T := px_T8) (N := 53) hx hb htw px_in8 hown hK hP 0 rfl rfl 4 (by decide) (htw _ px_w413) (fun _ h9 => h9) rfl px_d107_118 ?_
            obtain ⟨hk121, hw⟩ := hw
            have hPc : va_P (dC, dI) vwCl [(hh 196, .inr (9, [.ref (qq 196), .int ((nv 196).1), .int ((nv 196).2.1)])), (qq 196, .inl (cN, 160, .inl ((nv 196).2.2)))] H := px_outP hP [196] hk121
            have hDc : va_D A [(hh 196, .inr (9, [.ref (qq 196), .int ((nv 196).1), .int ((nv 196).2.1)])), (qq 196, .inl (cN, 160, .inl ((nv 196).2.2)))] := px_outD hD [196] hk121
            have hFc : ∀ q, va_A [(hh 196, .inr (9, [.ref (qq 196), .int ((nv 196).1), .int ((nv 196).2.1)])), (qq 196, .inl (cN, 160, .inl ((nv 196).2.2)))] H.size q → A q := px_outF hD hS hA [196] hk121
            have hKc := hK.sub (tys' := [(cN, .int)]) [2] rfl
            refine va_callv (va_runV (As := []) (rest := []) ⟨hx, hb, hml, hown, htw⟩ (nt_met l dC dI H.size (hh 196) (qq 196) cN ((nv 196).1) ((nv 196).2.1) ((nv 196).2.2) _ hw) (cwV 0 htw (px_gv px_w711 px_w291 px_w292 px_w149 px_g15) rfl rfl rfl (by decide +kernel) ⟨Nat.le_of_ble_eq_true rfl, Nat.le_of_ble_eq_true rfl⟩) ⟨fun a U g mk q => by obtain ⟨q0, q1, qP, qK, qD, qN⟩ := q; exact ⟨q0, q1, qP, va_K.moved (u := U) (U := U.calling g mk a) (Vm.Alike.refl U.vm) qK, qD, qN.same rfl⟩, va_recv hK hPc (ci := 9) (q0 := 0) rfl rfl, fun U hU hW => ⟨rfl, by rw [hU], by rw [hU]; exact hPc, va_K.moved hW.alike hKc, hDc.weaken (fun _ _ _ _ => trivial), hN.warm hW⟩⟩ rfl rfl hl.1 rfl (lv_room (Nat.le_of_ble_eq_true rfl)) px_d107_121 ⟨(Nat.le_of_ble_eq_true rfl), (Nat.le_of_ble_eq_true rfl)⟩) hS (fun q _ h => hFc q h) hFc (fun u t H1 locs ht hvm hw hB hz1 hk1 hS => ?_)
            obtain ⟨v5, v6, v7⟩ := u
            obtain ⟨hP1, hK1, hD1⟩ := hB
            rw [ht] at hP1
            obtain ⟨nv9, env9⟩ : ∃ z : Nat → px_NV, z = px_fold nv [(196, ⟨v5, v6, v7⟩)] := ⟨_, rfl⟩
            have hw := hw nv9 env9
            obtain ⟨hP, hD⟩ := px_in hP hD [196] hk121 [(196, ⟨v5, v6, v7⟩)] rfl hk1 hP1 env9
            generalize H1 = H at hP hS ⊢
            have hP : va_P (dC, dI) vwCl ([(h0, .inr (8, px_mf (px_rf hh rf) iv)), ((px_rf hh rf) 46, .inl (c_sheet, 65536, .inl g_sheet)), ((px_rf hh rf) 48, .inl (c_decimals, 200, .inl g_decimals))] ++ px_np hh qq cN nv9) H := hP
            have hD : va_D A ([(h0, .inr (8, px_mf (px_rf hh rf) iv)), ((px_rf hh rf) 46, .inl (c_sheet, 65536, .inl g_sheet)), ((px_rf hh rf) 48, .inl (c_decimals, 200, .inl g_decimals))] ++ px_np hh qq cN nv9) := hD
            refine lv_aload_n hx hb px_d107_124 rfl (lv_at hl 0 rfl) ?_
            refine va_get (D := (dC, dI)) (ci := 8) (v := .ref ((px_rf hh rf) 48)) (C := "MatroidDeskModel") (T := px_T8) (N := 53) hx hb htw px_in8 hown hK hP 0 rfl rfl 48 (by decide) (htw _ px_w521) (fun _ h9 => h9) rfl px_d107_125 ?_
            refine lv_iload_n hx hb px_d107_128 rfl (lv_at hl 2 rfl) ?_
            refine lv_bipush (v := 48) hx hb px_d107_129 (by decide) ?_
            refine lv_iload_n hx hb px_d107_131 rfl (lv_at hl 3 rfl) ?_
            refine lv_iadd hx hb px_d107_132 ?_
            refine lv_i2b (v := (48 + x3).toInt8.toInt32) hx hb px_d107_133 rfl ?_
            obtain ⟨hi134, hw⟩ := hw
            refine va_bast hx hb hK hP hD hS 2 1 rfl rfl hi134 px_d107_134 (fun H locs hP hD hS => ?_)
            have hP : va_P (dC, dI) vwCl ([(h0, .inr (8, px_mf (px_rf hh rf) iv)), ((px_rf hh rf) 46, .inl (c_sheet, 65536, .inl g_sheet)), ((px_rf hh rf) 48, .inl (c_decimals, 200, .inl (upd g_decimals (Int32.toNatClampNeg x2) (vp_nar .byte ((48 + x3).toInt8.toInt32)))))] ++ px_np hh qq cN nv9) H := hP
            have hD : va_D A ([(h0, .inr (8, px_mf (px_rf hh rf) iv)), ((px_rf hh rf) 46, .inl (c_sheet, 65536, .inl g_sheet)), ((px_rf hh rf) 48, .inl (c_decimals, 200, .inl (upd g_decimals (Int32.toNatClampNeg x2) (vp_nar .byte ((48 + x3).toInt8.toInt32)))))] ++ px_np hh qq cN nv9) := hD
            obtain ⟨z10, ez10⟩ : ∃ y : Int32, y = x2 + 1 := ⟨_, rfl⟩
            have hw := hw z10 ez10
            refine lv_iinc (v := z10) (lv' := [(2, .int z10), (0, .ref h0), (1, .ref (hh a1x)), (3, .int x3), (4, .int x4)]) hx hb px_d107_135 hl (k := 2) rfl (by rw [ez10]; rfl) (by decide) rfl (fun ls hl => ?_)
            refine lv_goto (tgt := 45) hx hb px_d107_138 (by decide) ?_
            exact ih45 z10 iv g_sheet (upd g_decimals (Int32.toNatClampNeg x2) (vp_nar .byte ((48 + x3).toInt8.toInt32))) nv9 H locs ls hP hD hS (lv_sub hl [1, 2, 0] rfl) hw
          · have hw := hw.2 c70
            refine lv_ldc hx hb (own := "MatroidDeskModel") (index := 218) (v := 65536) hown (htw _ px_w378) px_d107_73 ?_
            refine lv_iload_n hx hb px_d107_75 rfl (lv_at hl 3 rfl) ?_
            refine lv_imul hx hb px_d107_76 ?_
            refine lv_aload_n hx hb px_d107_77 rfl (lv_at hl 0 rfl) ?_
            refine va_get (D := (dC, dI)) (ci := 8) (v := .ref (hh 196)) (C := "MatroidDeskModel") (T := px_T8) (N := 53) hx hb htw px_in8 hown hK hP 0 rfl rfl 4 (by decide) (htw _ px_w413) (fun _ h9 => h9) rfl px_d107_78 ?_
            refine va_get (D := (dC, dI)) (ci := 9) (v := .ref (qq 196)) (C := "MatroidDeskModel$Num") (T := px_T9) (N := 3) hx hb htw px_in9 hown hK hP (3 + 196) (px_go rfl (by decide)) rfl 0 (by decide) (htw _ px_w529) (fun _ h9 => h9) rfl px_d107_81 ?_
            refine lv_iload hx hb px_d107_84 (lv_at hl 4 rfl) ?_
            obtain ⟨hi86, hw⟩ := hw
            refine va_iald hx hb hK hP (3 + (200 + 196)) 2 (px_ga rfl (by decide)) rfl hi86 px_d107_86 ?_
            refine lv_iadd hx hb px_d107_87 ?_
            refine lv_topi (fun z11 ez11 => ?_)
            have hw := hw z11 ez11
            refine lv_istore (lv' := [(5, .int z11), (0, .ref h0), (1, .ref (hh a1x)), (2, .int x2), (3, .int x3), (4, .int x4)]) hx hb px_d107_88 hl (by decide) rfl (fun ls hl => ?_)
            refine lv_aload_n hx hb px_d107_90 rfl (lv_at hl 1 rfl) ?_
            refine va_get (D := (dC, dI)) (ci := 8) (v := .ref (hh 196)) (C := "MatroidDeskModel") (T := px_T8) (N := 53) hx hb htw px_in8 hown hK hP 0 rfl rfl 4 (by decide) (htw _ px_w413) (fun _ h9 => h9) rfl px_d107_91 ?_
            refine va_get (D := (dC, dI)) (ci := 9) (v := .ref (qq 196)) (C := "MatroidDeskModel$Num") (T := px_T9) (N := 3) hx hb htw px_in9 hown hK hP (3 + 196) (px_go rfl (by decide)) rfl 0 (by decide) (htw _ px_w529) (fun _ h9 => h9) rfl px_d107_94 ?_
            refine lv_iload hx hb px_d107_97 (lv_at hl 5 rfl) ?_
            refine lv_iload hx hb px_d107_99 (lv_at hl 0 rfl) ?_
            refine lv_bipush (v := 10) hx hb px_d107_101 (by decide) ?_
            refine lv_idiv hx hb px_d107_103 (by decide +kernel) ?_
            refine lv_topi (fun z12 ez12 => ?_)
            have hw := hw z12 ez12
            obtain ⟨hi104, hw⟩ := hw
            obtain ⟨nv13, env13⟩ : ∃ z : Nat → px_NV, z = va_up nv 196 ⟨(nv 196).1, (nv 196).2.1, upd (nv 196).2.2 (Int32.toNatClampNeg x4) z12⟩ := ⟨_, rfl⟩
            refine va_iast hx hb hK hP hD hS (3 + (200 + 196)) 2 (px_ga rfl (by decide)) rfl hi104 px_d107_104 (fun H locs hP hD hS => ?_)
            have hP : va_P (dC, dI) vwCl ([(h0, .inr (8, px_mf (px_rf hh rf) iv)), ((px_rf hh rf) 46, .inl (c_sheet, 65536, .inl g_sheet)), ((px_rf hh rf) 48, .inl (c_decimals, 200, .inl g_decimals))] ++ px_np hh qq cN nv13) H := px_saP rfl (by decide) env13 hP
            have hD : va_D A ([(h0, .inr (8, px_mf (px_rf hh rf) iv)), ((px_rf hh rf) 46, .inl (c_sheet, 65536, .inl g_sheet)), ((px_rf hh rf) 48, .inl (c_decimals, 200, .inl g_decimals))] ++ px_np hh qq cN nv13) := px_saD rfl (by decide) env13 hD
            have hw := hw nv13 env13
            refine lv_iload hx hb px_d107_105 (lv_at hl 0 rfl) ?_
            refine lv_bipush (v := 10) hx hb px_d107_107 (by decide) ?_
            refine lv_irem hx hb px_d107_109 (by decide +kernel) ?_
            refine lv_topi (fun z14 ez14 => ?_)
            have hw := hw z14 ez14
            refine lv_istore_n (lv' := [(3, .int z14), (5, .int z11), (0, .ref h0), (1, .ref (hh a1x)), (2, .int x2), (4, .int x4)]) hx hb px_d107_110 rfl hl (by decide) rfl (fun ls hl => ?_)
            obtain ⟨z15, ez15⟩ : ∃ y : Int32, y = x4 + (-1) := ⟨_, rfl⟩
            have hw := hw z15 ez15
            refine lv_iinc (v := z15) (lv' := [(4, .int z15), (3, .int z14), (5, .int z11), (0, .ref h0), (1, .ref (hh a1x)), (2, .int x2)]) hx hb px_d107_111 hl (k := 5) rfl (by rw [ez15]; rfl) (by decide) rfl (fun ls hl => ?_)
            refine lv_goto (tgt := 68) hx hb px_d107_114 (by decide) ?_
            exact ih68 x2 z14 z15 iv g_sheet g_decimals nv13 H locs ls hP hD hS (lv_sub hl [3, 4, 5, 1, 0] rfl) hw
      intro x2 iv g_sheet g_decimals nv H locs ls hP hD hS hl hw
      unfold w107_L45 at hw
      refine lv_aload_n hx hb px_d107_45 rfl (lv_at hl 0 rfl) ?_
      refine va_get (D := (dC, dI)) (ci := 8) (v := .ref (hh 196)) (C := "MatroidDeskModel") (T := px_T8) (N := 53) hx hb htw px_in8 hown hK hP 0 rfl rfl 4 (by decide) (htw _ px_w413) (fun _ h9 => h9) rfl px_d107_46 ?_
      refine va_get (D := (dC, dI)) (ci := 9) (v := .int ((nv 196).1)) (C := "MatroidDeskModel$Num") (T := px_T9) (N := 3) hx hb htw px_in9 hown hK hP (3 + 196) (px_go rfl (by decide)) rfl 1 (by decide) (htw _ px_w417) (fun _ h9 => h9) rfl px_d107_49 ?_
      refine lv_if_le (tgt := 141) hx hb px_d107_52 (by decide) (fun c52 => ?_) (fun c52 => ?_)
      · have hw := hw.1 c52
        obtain ⟨k9, hw⟩ := hw
        exact S141 k9 x2 iv g_sheet g_decimals nv H locs ls hP hD hS (lv_sub hl [0, 1, 2] rfl) hw
      · have hw := hw.2 c52
        refine lv_iconst (v := 0) hx hb px_d107_55 (by decide) ?_
        refine lv_istore_n (lv' := [(3, .int 0), (0, .ref h0), (1, .ref (hh a1x)), (2, .int x2)]) hx hb px_d107_56 rfl hl (by decide) rfl (fun ls hl => ?_)
        refine lv_aload_n hx hb px_d107_57 rfl (lv_at hl 1 rfl) ?_
        refine va_get (D := (dC, dI)) (ci := 8) (v := .ref (hh 196)) (C := "MatroidDeskModel") (T := px_T8) (N := 53) hx hb htw px_in8 hown hK hP 0 rfl rfl 4 (by decide) (htw _ px_w413) (fun _ h9 => h9) rfl px_d107_58 ?_
        refine va_get (D := (dC, dI)) (ci := 9) (v := .int ((nv 196).1)) (C := "MatroidDeskModel$Num") (T := px_T9) (N := 3) hx hb htw px_in9 hown hK hP (3 + 196) (px_go rfl (by decide)) rfl 1 (by decide) (htw _ px_w417) (fun _ h9 => h9) rfl px_d107_61 ?_
        refine lv_iconst (v := 1) hx hb px_d107_64 (by decide) ?_
        refine lv_isub hx hb px_d107_65 ?_
        refine lv_topi (fun z16 ez16 => ?_)
        have hw := hw z16 ez16
        refine lv_istore (lv' := [(4, .int z16), (3, .int 0), (0, .ref h0), (1, .ref (hh a1x)), (2, .int x2)]) hx hb px_d107_66 hl (by decide) rfl (fun ls hl => ?_)
        obtain ⟨k9, hw⟩ := hw
        exact S68 k9 x2 0 z16 iv g_sheet g_decimals nv H locs ls hP hD hS (lv_sub hl [2, 3, 4, 1, 0] rfl) hw
  have S27 : ∀ (iv : Nat → Int32) (g_sheet : Nat → Int32) (g_decimals : Nat → Int32) (nv : Nat → px_NV) (H : Heap) (locs : List Loc) (ls : Array Slot), va_P (dC, dI) vwCl ([(h0, .inr (8, px_mf (px_rf hh rf) iv)), ((px_rf hh rf) 46, .inl (c_sheet, 65536, .inl g_sheet)), ((px_rf hh rf) 48, .inl (c_decimals, 200, .inl g_decimals))] ++ px_np hh qq cN nv) H → va_D A ([(h0, .inr (8, px_mf (px_rf hh rf) iv)), ((px_rf hh rf) 46, .inl (c_sheet, 65536, .inl g_sheet)), ((px_rf hh rf) 48, .inl (c_decimals, 200, .inl g_decimals))] ++ px_np hh qq cN nv) → va_S A s.heap H locs → lv_has ls 6 [(0, .ref h0), (1, .ref (hh a1x))] → w107_L27 a1x post iv g_sheet g_decimals nv → W p l e (headSpec px_s107 ({ frames := 2, cells := 0, slots := 0, locals := 44 })).room s m ([.ref h0, .ref (hh a1x)]).toArray below meth c H locs 0 0 Q (F0 m 27 ls []) := by
    intro iv g_sheet g_decimals nv H locs ls hP hD hS hl hw
    unfold w107_L27 at hw
    refine lv_aload_n hx hb px_d107_27 rfl (lv_at hl 0 rfl) ?_
    refine va_get (D := (dC, dI)) (ci := 8) (v := .ref (hh 196)) (C := "MatroidDeskModel") (T := px_T8) (N := 53) hx hb htw px_in8 hown hK hP 0 rfl rfl 4 (by decide) (htw _ px_w413) (fun _ h9 => h9) rfl px_d107_28 ?_
    refine lv_aload_n hx hb px_d107_31 rfl (lv_at hl 1 rfl) ?_
    obtain ⟨hk32, hw⟩ := hw
    have hPc : va_P (dC, dI) vwCl [(hh 196, .inr (9, [.ref (qq 196), .int ((nv 196).1), .int ((nv 196).2.1)])), (qq 196, .inl (cN, 160, .inl ((nv 196).2.2))), (hh a1x, .inr (9, [.ref (qq a1x), .int ((nv a1x).1), .int ((nv a1x).2.1)])), (qq a1x, .inl (cN, 160, .inl ((nv a1x).2.2)))] H := px_outP hP [196, a1x] hk32
    have hDc : va_D A [(hh 196, .inr (9, [.ref (qq 196), .int ((nv 196).1), .int ((nv 196).2.1)])), (qq 196, .inl (cN, 160, .inl ((nv 196).2.2))), (hh a1x, .inr (9, [.ref (qq a1x), .int ((nv a1x).1), .int ((nv a1x).2.1)])), (qq a1x, .inl (cN, 160, .inl ((nv a1x).2.2)))] := px_outD hD [196, a1x] hk32
    have hFc : ∀ q, va_A [(hh 196, .inr (9, [.ref (qq 196), .int ((nv 196).1), .int ((nv 196).2.1)])), (qq 196, .inl (cN, 160, .inl ((nv 196).2.2))), (hh a1x, .inr (9, [.ref (qq a1x), .int ((nv a1x).1), .int ((nv a1x).2.1)])), (qq a1x, .inl (cN, 160, .inl ((nv a1x).2.2)))] H.size q → A q := px_outF hD hS hA [196, a1x] hk32
    have hKc := hK.sub (tys' := [(cN, .int), (cN, .int)]) [2, 2] rfl
    refine va_callv (va_runV (As := [.ref (hh a1x)]) (rest := []) ⟨hx, hb, hml, hown, htw⟩ (ncp_met l dC dI H.size (hh 196) (qq 196) (hh a1x) (qq a1x) cN cN ((nv 196).1) ((nv 196).2.1) ((nv 196).2.2) ((nv a1x).1) ((nv a1x).2.1) ((nv a1x).2.2) _ hw) (cwV 1 htw (px_gv px_w414 px_w274 px_w275 px_w149 px_g10) rfl rfl rfl (by decide +kernel) ⟨Nat.le_of_ble_eq_true rfl, Nat.le_of_ble_eq_true rfl⟩) ⟨fun a U g mk q => by obtain ⟨q0, q1, qP, qK, qD, qN⟩ := q; exact ⟨q0, q1, qP, va_K.moved (u := U) (U := U.calling g mk a) (Vm.Alike.refl U.vm) qK, qD, qN.same rfl⟩, va_recv hK hPc (ci := 9) (q0 := 0) rfl rfl, fun U hU hW => ⟨rfl, by rw [hU], by rw [hU]; exact hPc, va_K.moved hW.alike hKc, hDc.weaken (fun _ _ _ _ => trivial), hN.warm hW⟩⟩ rfl rfl hl.1 rfl (lv_room (Nat.le_of_ble_eq_true rfl)) px_d107_32 ⟨(Nat.le_of_ble_eq_true rfl), (Nat.le_of_ble_eq_true rfl)⟩) hS (fun q _ h => hFc q h) hFc (fun u t H1 locs ht hvm hw hB hz1 hk1 hS => ?_)
    obtain ⟨v17, v18, v19, v20, v21, v22⟩ := u
    obtain ⟨hP1, hK1, hD1⟩ := hB
    rw [ht] at hP1
    obtain ⟨nv24, env24⟩ : ∃ z : Nat → px_NV, z = px_fold nv [(196, ⟨v17, v18, v19⟩), (a1x, ⟨v20, v21, v22⟩)] := ⟨_, rfl⟩
    have hw := hw nv24 env24
    obtain ⟨hP, hD⟩ := px_in hP hD [196, a1x] hk32 [(196, ⟨v17, v18, v19⟩), (a1x, ⟨v20, v21, v22⟩)] rfl hk1 hP1 env24
    generalize H1 = H at hP hS ⊢
    have hP : va_P (dC, dI) vwCl ([(h0, .inr (8, px_mf (px_rf hh rf) iv)), ((px_rf hh rf) 46, .inl (c_sheet, 65536, .inl g_sheet)), ((px_rf hh rf) 48, .inl (c_decimals, 200, .inl g_decimals))] ++ px_np hh qq cN nv24) H := hP
    have hD : va_D A ([(h0, .inr (8, px_mf (px_rf hh rf) iv)), ((px_rf hh rf) 46, .inl (c_sheet, 65536, .inl g_sheet)), ((px_rf hh rf) 48, .inl (c_decimals, 200, .inl g_decimals))] ++ px_np hh qq cN nv24) := hD
    refine lv_aload_n hx hb px_d107_35 rfl (lv_at hl 0 rfl) ?_
    refine va_get (D := (dC, dI)) (ci := 8) (v := .ref (hh 196)) (C := "MatroidDeskModel") (T := px_T8) (N := 53) hx hb htw px_in8 hown hK hP 0 rfl rfl 4 (by decide) (htw _ px_w413) (fun _ h9 => h9) rfl px_d107_36 ?_
    refine lv_iconst (v := 0) hx hb px_d107_39 (by decide) ?_
    obtain ⟨nv25, env25⟩ : ∃ z : Nat → px_NV, z = va_up nv24 196 ⟨(nv24 196).1, 0, (nv24 196).2.2⟩ := ⟨_, rfl⟩
    refine va_put (D := (dC, dI)) (ci := 9) (v := .int 0) (ty := .boolean) (C := "MatroidDeskModel$Num") (T := px_T9) (N := 3) hx hb htw px_in9 px_ty9 px_tyok9 px_nm9 hown hK hP hD hS (3 + 196) (px_go rfl (by decide)) rfl 2 (by decide) (htw _ px_w415) (fun _ h9 => h9) rfl (by decide +kernel) (by decide +kernel) (by decide +kernel) (Nat.le_of_ble_eq_true rfl) px_d107_40 (fun H locs hP hD hS => ?_)
    have hP : va_P (dC, dI) vwCl ([(h0, .inr (8, px_mf (px_rf hh rf) iv)), ((px_rf hh rf) 46, .inl (c_sheet, 65536, .inl g_sheet)), ((px_rf hh rf) 48, .inl (c_decimals, 200, .inl g_decimals))] ++ px_np hh qq cN nv25) H := px_soP rfl (by decide) env25 hP
    have hD : va_D A ([(h0, .inr (8, px_mf (px_rf hh rf) iv)), ((px_rf hh rf) 46, .inl (c_sheet, 65536, .inl g_sheet)), ((px_rf hh rf) 48, .inl (c_decimals, 200, .inl g_decimals))] ++ px_np hh qq cN nv25) := px_soD rfl (by decide) env25 hD
    have hw := hw nv25 env25
    refine lv_iconst (v := 0) hx hb px_d107_43 (by decide) ?_
    refine lv_istore_n (lv' := [(2, .int 0), (0, .ref h0), (1, .ref (hh a1x))]) hx hb px_d107_44 rfl hl (by decide) rfl (fun ls hl => ?_)
    obtain ⟨k9, hw⟩ := hw
    exact S45 k9 0 iv g_sheet g_decimals nv25 H locs ls hP hD hS (lv_sub hl [1, 2, 0] rfl) hw
  unfold w107_wp at hw
  have hS0 := hS
  obtain ⟨H, hH9⟩ : ∃ z, z = s.heap := ⟨_, rfl⟩
  have hP : va_P (dC, dI) vwCl ([(h0, .inr (8, px_mf (px_rf hh rf) iv)), ((px_rf hh rf) 46, .inl (c_sheet, 65536, .inl g_sheet)), ((px_rf hh rf) 48, .inl (c_decimals, 200, .inl g_decimals))] ++ px_np hh qq cN nv) H := by rw [hH9]; exact hP
  obtain ⟨locs, hlo9⟩ : ∃ z : List Loc, z = [] := ⟨_, rfl⟩
  have hS : va_S A s.heap H locs := by rw [hH9, hlo9]; exact hS
  suffices hG : W p l e (headSpec px_s107 ({ frames := 2, cells := 0, slots := 0, locals := 44 })).room s m ([.ref h0, .ref (hh a1x)]).toArray below meth c H locs 0 0 Q (F0 m 0 ls []) by rw [hH9, hlo9] at hG; exact hG
  refine lv_aload_n hx hb px_d107_0 rfl (lv_at hl 1 rfl) ?_
  obtain ⟨hp1, hw⟩ := hw
  refine va_get (D := (dC, dI)) (ci := 9) (v := .int ((nv a1x).1)) (C := "MatroidDeskModel$Num") (T := px_T9) (N := 3) hx hb htw px_in9 hown hK hP (3 + a1x) (px_go rfl hp1) rfl 1 (by decide) (htw _ px_w417) (fun _ h9 => h9) rfl px_d107_1 ?_
  refine lv_if_ne (tgt := 14) hx hb px_d107_4 (by decide) (fun c4 => ?_) (fun c4 => ?_)
  · have hw := hw.1 c4
    refine lv_aload_n hx hb px_d107_14 rfl (lv_at hl 1 rfl) ?_
    obtain ⟨hp15, hw⟩ := hw
    refine va_get (D := (dC, dI)) (ci := 9) (v := .int ((nv a1x).2.1)) (C := "MatroidDeskModel$Num") (T := px_T9) (N := 3) hx hb htw px_in9 hown hK hP (3 + a1x) (px_go rfl hp15) rfl 2 (by decide) (htw _ px_w415) (fun _ h9 => h9) rfl px_d107_15 ?_
    refine lv_if_eq (tgt := 27) hx hb px_d107_18 (by decide) (fun c18 => ?_) (fun c18 => ?_)
    · have hw := hw.1 c18
      exact S27 iv g_sheet g_decimals nv H locs ls hP hD hS (lv_sub hl [0, 1] rfl) hw
    · have hw := hw.2 c18
      refine lv_aload_n hx hb px_d107_21 rfl (lv_at hl 0 rfl) ?_
      refine lv_bipush (v := 45) hx hb px_d107_22 (by decide) ?_
      have hPc := hP.sub (ws' := [(h0, .inr (8, px_mf (px_rf hh rf) iv)), ((px_rf hh rf) 46, .inl (c_sheet, 65536, .inl g_sheet))]) [0, 1] rfl
      have hDc := hD.sub (ws' := [(h0, .inr (8, px_mf (px_rf hh rf) iv)), ((px_rf hh rf) 46, .inl (c_sheet, 65536, .inl g_sheet))]) [0, 1] (by decide) rfl
      have hFc := va_free (wc := [(h0, .inr (8, px_mf (px_rf hh rf) iv)), ((px_rf hh rf) 46, .inl (c_sheet, 65536, .inl g_sheet))]) hD hS hA [0, 1] rfl
      have hKc := hK.sub (tys' := [(c_sheet, .byte)]) [0] rfl
      refine va_callv (va_runV (As := [.int 45]) (rest := []) ⟨hx, hb, hml, hown, htw⟩ (mpu_met l dC dI H.size h0 (px_rf hh rf) c_sheet 45 iv g_sheet _ hw) (cwV 1 htw (px_gv px_w700 px_w375 px_w376 px_w94 px_g37) rfl rfl rfl (by decide +kernel) ⟨Nat.le_of_ble_eq_true rfl, Nat.le_of_ble_eq_true rfl⟩) ⟨fun a U g mk q => by obtain ⟨q0, q1, qP, qK, qD, qN⟩ := q; exact ⟨q0, q1, qP, va_K.moved (u := U) (U := U.calling g mk a) (Vm.Alike.refl U.vm) qK, qD, qN.same rfl⟩, va_recv hK hP (ci := 8) (q0 := 0) rfl rfl, fun U hU hW => ⟨rfl, by rw [hU], by rw [hU]; exact hPc, va_K.moved hW.alike hKc, hDc.weaken (fun _ _ _ _ => trivial), hN.warm hW⟩⟩ rfl rfl hl.1 rfl (lv_room (Nat.le_of_ble_eq_true rfl)) px_d107_24 ⟨(Nat.le_of_ble_eq_true rfl), (Nat.le_of_ble_eq_true rfl)⟩) hS (fun q _ h => hFc q h) hFc (fun u t H1 locs ht hvm hw hB hz1 hk1 hS => ?_)
      obtain ⟨v26, v27⟩ := u
      obtain ⟨hP1, hK1, hD1⟩ := hB
      rw [ht] at hP1
      obtain ⟨hP, hD⟩ := va_joinQ (wr := [((px_rf hh rf) 48, .inl (c_decimals, 200, .inl g_decimals))]) (w1 := [(h0, .inr (8, px_mf (px_rf hh rf) v26)), ((px_rf hh rf) 46, .inl (c_sheet, 65536, .inl v27))]) hP hD [0, 1] [2] rfl rfl (by decide) (by decide) hk1 hFc hP1 hD1
      generalize H1 = H at hP hS ⊢
      have hP : va_P (dC, dI) vwCl ([((px_rf hh rf) 48, .inl (c_decimals, 200, .inl g_decimals)), (h0, .inr (8, px_mf (px_rf hh rf) v26)), ((px_rf hh rf) 46, .inl (c_sheet, 65536, .inl v27))] ++ px_np hh qq cN nv) H := hP
      have hD : va_D A ([((px_rf hh rf) 48, .inl (c_decimals, 200, .inl g_decimals)), (h0, .inr (8, px_mf (px_rf hh rf) v26)), ((px_rf hh rf) 46, .inl (c_sheet, 65536, .inl v27))] ++ px_np hh qq cN nv) := hD
      have hP := hP.part (cx := [(h0, .inr (8, px_mf (px_rf hh rf) v26)), ((px_rf hh rf) 46, .inl (c_sheet, 65536, .inl v27)), ((px_rf hh rf) 48, .inl (c_decimals, 200, .inl g_decimals))]) [1, 2, 0] rfl
      have hD := hD.part (cx := [(h0, .inr (8, px_mf (px_rf hh rf) v26)), ((px_rf hh rf) 46, .inl (c_sheet, 65536, .inl v27)), ((px_rf hh rf) 48, .inl (c_decimals, 200, .inl g_decimals))]) [1, 2, 0] (by decide) rfl
      exact S27 v26 v27 g_decimals nv H locs ls hP hD hS (lv_sub hl [0, 1] rfl) hw
  · have hw := hw.2 c4
    refine lv_aload_n hx hb px_d107_7 rfl (lv_at hl 0 rfl) ?_
    refine lv_bipush (v := 48) hx hb px_d107_8 (by decide) ?_
    have hPc := hP.sub (ws' := [(h0, .inr (8, px_mf (px_rf hh rf) iv)), ((px_rf hh rf) 46, .inl (c_sheet, 65536, .inl g_sheet))]) [0, 1] rfl
    have hDc := hD.sub (ws' := [(h0, .inr (8, px_mf (px_rf hh rf) iv)), ((px_rf hh rf) 46, .inl (c_sheet, 65536, .inl g_sheet))]) [0, 1] (by decide) rfl
    have hFc := va_free (wc := [(h0, .inr (8, px_mf (px_rf hh rf) iv)), ((px_rf hh rf) 46, .inl (c_sheet, 65536, .inl g_sheet))]) hD hS hA [0, 1] rfl
    have hKc := hK.sub (tys' := [(c_sheet, .byte)]) [0] rfl
    refine va_callv (va_runV (As := [.int 48]) (rest := []) ⟨hx, hb, hml, hown, htw⟩ (mpu_met l dC dI H.size h0 (px_rf hh rf) c_sheet 48 iv g_sheet _ hw) (cwV 1 htw (px_gv px_w700 px_w375 px_w376 px_w94 px_g37) rfl rfl rfl (by decide +kernel) ⟨Nat.le_of_ble_eq_true rfl, Nat.le_of_ble_eq_true rfl⟩) ⟨fun a U g mk q => by obtain ⟨q0, q1, qP, qK, qD, qN⟩ := q; exact ⟨q0, q1, qP, va_K.moved (u := U) (U := U.calling g mk a) (Vm.Alike.refl U.vm) qK, qD, qN.same rfl⟩, va_recv hK hP (ci := 8) (q0 := 0) rfl rfl, fun U hU hW => ⟨rfl, by rw [hU], by rw [hU]; exact hPc, va_K.moved hW.alike hKc, hDc.weaken (fun _ _ _ _ => trivial), hN.warm hW⟩⟩ rfl rfl hl.1 rfl (lv_room (Nat.le_of_ble_eq_true rfl)) px_d107_10 ⟨(Nat.le_of_ble_eq_true rfl), (Nat.le_of_ble_eq_true rfl)⟩) hS (fun q _ h => hFc q h) hFc (fun u t H1 locs ht hvm hw hB hz1 hk1 hS => ?_)
    obtain ⟨v29, v30⟩ := u
    obtain ⟨hP1, hK1, hD1⟩ := hB
    rw [ht] at hP1
    obtain ⟨hP, hD⟩ := va_joinQ (wr := [((px_rf hh rf) 48, .inl (c_decimals, 200, .inl g_decimals))]) (w1 := [(h0, .inr (8, px_mf (px_rf hh rf) v29)), ((px_rf hh rf) 46, .inl (c_sheet, 65536, .inl v30))]) hP hD [0, 1] [2] rfl rfl (by decide) (by decide) hk1 hFc hP1 hD1
    generalize H1 = H at hP hS ⊢
    have hP : va_P (dC, dI) vwCl ([((px_rf hh rf) 48, .inl (c_decimals, 200, .inl g_decimals)), (h0, .inr (8, px_mf (px_rf hh rf) v29)), ((px_rf hh rf) 46, .inl (c_sheet, 65536, .inl v30))] ++ px_np hh qq cN nv) H := hP
    have hD : va_D A ([((px_rf hh rf) 48, .inl (c_decimals, 200, .inl g_decimals)), (h0, .inr (8, px_mf (px_rf hh rf) v29)), ((px_rf hh rf) 46, .inl (c_sheet, 65536, .inl v30))] ++ px_np hh qq cN nv) := hD
    have hP := hP.part (cx := [(h0, .inr (8, px_mf (px_rf hh rf) v29)), ((px_rf hh rf) 46, .inl (c_sheet, 65536, .inl v30)), ((px_rf hh rf) 48, .inl (c_decimals, 200, .inl g_decimals))]) [1, 2, 0] rfl
    have hD := hD.part (cx := [(h0, .inr (8, px_mf (px_rf hh rf) v29)), ((px_rf hh rf) 46, .inl (c_sheet, 65536, .inl v30)), ((px_rf hh rf) 48, .inl (c_decimals, 200, .inl g_decimals))]) [1, 2, 0] (by decide) rfl
    rw [← hQ]
    exact W.vret hx hb hr (fun t ht hW => ⟨⟨(v29, v30, g_decimals, nv), rfl, hw, by rw [ht]; exact hP, va_K.moved hW.alike hK, hD⟩, hS.F ht⟩) hS.2.2 px_d107_13

/-! MatroidDeskModel.show(I)V -/
def w108_L212 (K2 : Int32 → Int32 → (Nat → Int32) → (Nat → Int32) → (Nat → Int32) → (Nat → Int32) → (Nat → Int32) → (Nat → Int32) → (Nat → Int32) → (Nat → Int32) → (Nat → px_NV) → Prop) (K22 : Int32 → Int32 → Int32 → Int32 → (Nat → Int32) → (Nat → Int32) → (Nat → Int32) → (Nat → Int32) → (Nat → Int32) → (Nat → Int32) → (Nat → Int32) → (Nat → Int32) → (Nat → px_NV) → Prop) (post : (Nat → Int32) → (Nat → Int32) → (Nat → Int32) → (Nat → Int32) → (Nat → Int32) → (Nat → Int32) → (Nat → Int32) → (Nat → Int32) → (Nat → px_NV) → Prop) (x1 : Int32) (x2 : Int32) (x3 : Int32) (x4 : Int32) (x5 : Int32) (iv : Nat → Int32) (g_elements : Nat → Int32) (g_fields : Nat → Int32) (g_ranks : Nat → Int32) (g_kept : Nat → Int32) (g_keptSmall : Nat → Int32) (g_sheet : Nat → Int32) (g_decimals : Nat → Int32) (nv : Nat → px_NV) : Prop := ∀ z1 : Int32, z1 = x4 + 1 → K22 x1 x2 x3 z1 iv g_elements g_fields g_ranks g_kept g_keptSmall g_sheet g_decimals nv
def w108_L44 (K2 : Int32 → Int32 → (Nat → Int32) → (Nat → Int32) → (Nat → Int32) → (Nat → Int32) → (Nat → Int32) → (Nat → Int32) → (Nat → Int32) → (Nat → Int32) → (Nat → px_NV) → Prop) (K22 : Int32 → Int32 → Int32 → Int32 → (Nat → Int32) → (Nat → Int32) → (Nat → Int32) → (Nat → Int32) → (Nat → Int32) → (Nat → Int32) → (Nat → Int32) → (Nat → Int32) → (Nat → px_NV) → Prop) (post : (Nat → Int32) → (Nat → Int32) → (Nat → Int32) → (Nat → Int32) → (Nat → Int32) → (Nat → Int32) → (Nat → Int32) → (Nat → Int32) → (Nat → px_NV) → Prop) (x1 : Int32) (x2 : Int32) (x3 : Int32) (x4 : Int32) (iv : Nat → Int32) (g_elements : Nat → Int32) (g_fields : Nat → Int32) (g_ranks : Nat → Int32) (g_kept : Nat → Int32) (g_keptSmall : Nat → Int32) (g_sheet : Nat → Int32) (g_decimals : Nat → Int32) (nv : Nat → px_NV) : Prop := ∀ z2 : Int32, z2 = ((144 * x1) + (12 * x2)) + x4 → vp_in x1 26 ∧ (((g_fields (Int32.toNatClampNeg x1)) ≤ 0 → (w65_wp 197 (fun v3 v4 v5 => (w65_wp 198 (fun v7 v8 v9 => (w46_wp 197 198 (fun v11 v12 => px_ix [199, 196] ∧ (ncp_wp (fun v14 v15 v16 v17 v18 v19 => ∀ nv21 : Nat → px_NV, nv21 = px_fold v12 [(199, ⟨v14, v15, v16⟩), (196, ⟨v17, v18, v19⟩)] → (px_ix [192, 197, 199, 193] ∧ (nqu_wp (fun v22 v23 v24 v25 v26 v27 v28 v29 v30 v31 v32 v33 => ∀ nv35 : Nat → px_NV, nv35 = px_fold nv21 [(192, ⟨v22, v23, v24⟩), (197, ⟨v25, v26, v27⟩), (199, ⟨v28, v29, v30⟩), (193, ⟨v31, v32, v33⟩)] → ((w107_wp 192 (fun v36 v37 v38 v39 => px_ix [192, 198, 199, 193] ∧ (nqu_wp (fun v41 v42 v43 v44 v45 v46 v47 v48 v49 v50 v51 v52 => ∀ nv54 : Nat → px_NV, nv54 = px_fold v39 [(192, ⟨v41, v42, v43⟩), (198, ⟨v44, v45, v46⟩), (199, ⟨v47, v48, v49⟩), (193, ⟨v50, v51, v52⟩)] → (px_ix [192] ∧ (no_wp (fun r192 v55 v56 v57 => ∀ nv59 : Nat → px_NV, nv59 = px_fold nv54 [(192, ⟨v55, v56, v57⟩)] → ((¬ r192 = 0 → w108_L212 K2 K22 post x1 x2 x3 x4 z2 v36 g_elements g_fields g_ranks v8 g_keptSmall v37 v38 nv59) ∧ (r192 = 0 → (mpu_wp (fun v60 v61 => (w107_wp 192 (fun v63 v64 v65 v66 => w108_L212 K2 K22 post x1 x2 x3 x4 z2 v63 g_elements g_fields g_ranks v8 g_keptSmall v64 v65 v66) v60 v61 v38 nv59)) 47 v36 v37)))) ((nv54 192).1) ((nv54 192).2.1) ((nv54 192).2.2)))) ((v39 192).1) ((v39 192).2.1) ((v39 192).2.2) ((v39 198).1) ((v39 198).2.1) ((v39 198).2.2) ((v39 199).1) ((v39 199).2.1) ((v39 199).2.2) ((v39 193).1) ((v39 193).2.1) ((v39 193).2.2))) v11 g_sheet g_decimals nv35))) ((nv21 192).1) ((nv21 192).2.1) ((nv21 192).2.2) ((nv21 197).1) ((nv21 197).2.1) ((nv21 197).2.2) ((nv21 199).1) ((nv21 199).2.1) ((nv21 199).2.2) ((nv21 193).1) ((nv21 193).2.1) ((nv21 193).2.2)))) ((v12 199).1) ((v12 199).2.1) ((v12 199).2.2) ((v12 196).1) ((v12 196).2.1) ((v12 196).2.2))) v7 v9)) (24 * (((144 * x1) + (12 * x2)) + x3)) v3 v4 v5)) (24 * z2) iv g_kept nv)) ∧ (¬ (g_fields (Int32.toNatClampNeg x1)) ≤ 0 → vp_in z2 3744 ∧ ((w105_wp (fun v68 v69 => w108_L212 K2 K22 post x1 x2 x3 x4 z2 v68 g_elements g_fields g_ranks g_kept g_keptSmall v69 g_decimals nv) ((g_keptSmall (Int32.toNatClampNeg z2)).toInt64) iv g_sheet))))
def w108_L22 (K2 : Int32 → Int32 → (Nat → Int32) → (Nat → Int32) → (Nat → Int32) → (Nat → Int32) → (Nat → Int32) → (Nat → Int32) → (Nat → Int32) → (Nat → Int32) → (Nat → px_NV) → Prop) (post : (Nat → Int32) → (Nat → Int32) → (Nat → Int32) → (Nat → Int32) → (Nat → Int32) → (Nat → Int32) → (Nat → Int32) → (Nat → Int32) → (Nat → px_NV) → Prop) : Nat → Int32 → Int32 → Int32 → Int32 → (Nat → Int32) → (Nat → Int32) → (Nat → Int32) → (Nat → Int32) → (Nat → Int32) → (Nat → Int32) → (Nat → Int32) → (Nat → Int32) → (Nat → px_NV) → Prop
  | 0 => fun _ _ _ _ _ _ _ _ _ _ _ _ _ => False
  | k + 1 => fun x1 x2 x3 x4 iv g_elements g_fields g_ranks g_kept g_keptSmall g_sheet g_decimals nv => vp_in x1 26 ∧ (((g_elements (Int32.toNatClampNeg x1)) ≤ x4 → (mpu_wp (fun v71 v72 => ∀ z74 : Int32, z74 = x2 + 1 → K2 x1 z74 v71 g_elements g_fields g_ranks g_kept g_keptSmall v72 g_decimals nv) 10 iv g_sheet)) ∧ (¬ (g_elements (Int32.toNatClampNeg x1)) ≤ x4 → (x4 ≤ 0 → w108_L44 K2 (w108_L22 K2 post k) post x1 x2 x3 x4 iv g_elements g_fields g_ranks g_kept g_keptSmall g_sheet g_decimals nv) ∧ (¬ x4 ≤ 0 → (mpu_wp (fun v75 v76 => w108_L44 K2 (w108_L22 K2 post k) post x1 x2 x3 x4 v75 g_elements g_fields g_ranks g_kept g_keptSmall v76 g_decimals nv) 32 iv g_sheet))))
def w108_L2 (post : (Nat → Int32) → (Nat → Int32) → (Nat → Int32) → (Nat → Int32) → (Nat → Int32) → (Nat → Int32) → (Nat → Int32) → (Nat → Int32) → (Nat → px_NV) → Prop) : Nat → Int32 → Int32 → (Nat → Int32) → (Nat → Int32) → (Nat → Int32) → (Nat → Int32) → (Nat → Int32) → (Nat → Int32) → (Nat → Int32) → (Nat → Int32) → (Nat → px_NV) → Prop
  | 0 => fun _ _ _ _ _ _ _ _ _ _ _ => False
  | k + 1 => fun x1 x2 iv g_elements g_fields g_ranks g_kept g_keptSmall g_sheet g_decimals nv => vp_in x1 26 ∧ (((g_ranks (Int32.toNatClampNeg x1)) ≤ x2 → post iv g_elements g_fields g_ranks g_kept g_keptSmall g_sheet g_decimals nv) ∧ (¬ (g_ranks (Int32.toNatClampNeg x1)) ≤ x2 → (w90_wp (fun r15 v78 v79 v80 v81 => ∃ j22, w108_L22 (w108_L2 post k) post j22 x1 x2 r15 0 v78 g_elements v79 g_ranks v80 v81 g_sheet g_decimals nv) x1 x2 iv g_fields g_kept g_keptSmall)))
def w108_wp (post : (Nat → Int32) → (Nat → Int32) → (Nat → Int32) → (Nat → Int32) → (Nat → Int32) → (Nat → Int32) → (Nat → Int32) → (Nat → Int32) → (Nat → px_NV) → Prop) (a1x : Int32) (iv : Nat → Int32) (g_elements : Nat → Int32) (g_fields : Nat → Int32) (g_ranks : Nat → Int32) (g_kept : Nat → Int32) (g_keptSmall : Nat → Int32) (g_sheet : Nat → Int32) (g_decimals : Nat → Int32) (nv : Nat → px_NV) : Prop := ∃ j2, w108_L2 post j2 a1x 0 iv g_elements g_fields g_ranks g_kept g_keptSmall g_sheet g_decimals nv
set_option maxHeartbeats 8000000 in
set_option maxRecDepth 100000 in
theorem w108_met (l : Launch) (dC : Nat → ClassId) (dI : Nat → Nat → Nat) (sz : Nat) (h0 : Nat) (rf : Nat → Nat) (hh : Nat → Nat) (qq : Nat → Nat) (cN : ClassId) (c_elements : ClassId) (c_fields : ClassId) (c_ranks : ClassId) (c_kept : ClassId) (c_keptSmall : ClassId) (c_sheet : ClassId) (c_decimals : ClassId) (a1x : Int32) (iv : Nat → Int32) (g_elements : Nat → Int32) (g_fields : Nat → Int32) (g_ranks : Nat → Int32) (g_kept : Nat → Int32) (g_keptSmall : Nat → Int32) (g_sheet : Nat → Int32) (g_decimals : Nat → Int32) (nv : Nat → px_NV) (post : (Nat → Int32) → (Nat → Int32) → (Nat → Int32) → (Nat → Int32) → (Nat → Int32) → (Nat → Int32) → (Nat → Int32) → (Nat → Int32) → (Nat → px_NV) → Prop) (hw : w108_wp post a1x iv g_elements g_fields g_ranks g_kept g_keptSmall g_sheet g_decimals nv) : Met l px_y108 px_s108 ({ frames := 4, cells := 0, slots := 0, locals := 102 }) (va_Pc [.ref h0, .int a1x] (fun U => U.heap.size = sz ∧ va_P (dC, dI) vwCl ([(h0, .inr (8, px_mf (px_rf hh rf) iv)), ((px_rf hh rf) 19, .inl (c_elements, 26, .inl g_elements)), ((px_rf hh rf) 20, .inl (c_fields, 26, .inl g_fields)), ((px_rf hh rf) 21, .inl (c_ranks, 26, .inl g_ranks)), ((px_rf hh rf) 22, .inl (c_kept, 89856, .inl g_kept)), ((px_rf hh rf) 23, .inl (c_keptSmall, 3744, .inl g_keptSmall)), ((px_rf hh rf) 46, .inl (c_sheet, 65536, .inl g_sheet)), ((px_rf hh rf) 48, .inl (c_decimals, 200, .inl g_decimals))] ++ px_np hh qq cN nv) U.heap ∧ va_K (dC, dI) vwCl [(c_elements, .int), (c_fields, .int), (c_ranks, .int), (c_kept, .int), (c_keptSmall, .int), (c_sheet, .byte), (c_decimals, .byte), (cN, .int)] U ∧ va_D (fun _ => True) ([(h0, .inr (8, px_mf (px_rf hh rf) iv)), ((px_rf hh rf) 19, .inl (c_elements, 26, .inl g_elements)), ((px_rf hh rf) 20, .inl (c_fields, 26, .inl g_fields)), ((px_rf hh rf) 21, .inl (c_ranks, 26, .inl g_ranks)), ((px_rf hh rf) 22, .inl (c_kept, 89856, .inl g_kept)), ((px_rf hh rf) 23, .inl (c_keptSmall, 3744, .inl g_keptSmall)), ((px_rf hh rf) 46, .inl (c_sheet, 65536, .inl g_sheet)), ((px_rf hh rf) 48, .inl (c_decimals, 200, .inl g_decimals))] ++ px_np hh qq cN nv) ∧ px_N U)) (va_Qv (fun (u : (Nat → Int32) × (Nat → Int32) × (Nat → Int32) × (Nat → Int32) × (Nat → Int32) × (Nat → Int32) × (Nat → Int32) × (Nat → Int32) × (Nat → px_NV)) => post u.1 u.2.1 u.2.2.1 u.2.2.2.1 u.2.2.2.2.1 u.2.2.2.2.2.1 u.2.2.2.2.2.2.1 u.2.2.2.2.2.2.2.1 u.2.2.2.2.2.2.2.2) (fun (u : (Nat → Int32) × (Nat → Int32) × (Nat → Int32) × (Nat → Int32) × (Nat → Int32) × (Nat → Int32) × (Nat → Int32) × (Nat → Int32) × (Nat → px_NV)) (t : State) => va_P (dC, dI) vwCl ([(h0, .inr (8, px_mf (px_rf hh rf) u.1)), ((px_rf hh rf) 19, .inl (c_elements, 26, .inl u.2.1)), ((px_rf hh rf) 20, .inl (c_fields, 26, .inl u.2.2.1)), ((px_rf hh rf) 21, .inl (c_ranks, 26, .inl u.2.2.2.1)), ((px_rf hh rf) 22, .inl (c_kept, 89856, .inl u.2.2.2.2.1)), ((px_rf hh rf) 23, .inl (c_keptSmall, 3744, .inl u.2.2.2.2.2.1)), ((px_rf hh rf) 46, .inl (c_sheet, 65536, .inl u.2.2.2.2.2.2.1)), ((px_rf hh rf) 48, .inl (c_decimals, 200, .inl u.2.2.2.2.2.2.2.1))] ++ px_np hh qq cN u.2.2.2.2.2.2.2.2) t.heap ∧ va_K (dC, dI) vwCl [(c_elements, .int), (c_fields, .int), (c_ranks, .int), (c_kept, .int), (c_keptSmall, .int), (c_sheet, .byte), (c_decimals, .byte), (cN, .int)] t ∧ va_D (va_A ([(h0, .inr (8, px_mf (px_rf hh rf) iv)), ((px_rf hh rf) 19, .inl (c_elements, 26, .inl g_elements)), ((px_rf hh rf) 20, .inl (c_fields, 26, .inl g_fields)), ((px_rf hh rf) 21, .inl (c_ranks, 26, .inl g_ranks)), ((px_rf hh rf) 22, .inl (c_kept, 89856, .inl g_kept)), ((px_rf hh rf) 23, .inl (c_keptSmall, 3744, .inl g_keptSmall)), ((px_rf hh rf) 46, .inl (c_sheet, 65536, .inl g_sheet)), ((px_rf hh rf) 48, .inl (c_decimals, 200, .inl g_decimals))] ++ px_np hh qq cN nv) sz) ([(h0, .inr (8, px_mf (px_rf hh rf) u.1)), ((px_rf hh rf) 19, .inl (c_elements, 26, .inl u.2.1)), ((px_rf hh rf) 20, .inl (c_fields, 26, .inl u.2.2.1)), ((px_rf hh rf) 21, .inl (c_ranks, 26, .inl u.2.2.2.1)), ((px_rf hh rf) 22, .inl (c_kept, 89856, .inl u.2.2.2.2.1)), ((px_rf hh rf) 23, .inl (c_keptSmall, 3744, .inl u.2.2.2.2.2.1)), ((px_rf hh rf) 46, .inl (c_sheet, 65536, .inl u.2.2.2.2.2.2.1)), ((px_rf hh rf) 48, .inl (c_decimals, 200, .inl u.2.2.2.2.2.2.2.1))] ++ px_np hh qq cN u.2.2.2.2.2.2.2.2)) (va_A ([(h0, .inr (8, px_mf (px_rf hh rf) iv)), ((px_rf hh rf) 19, .inl (c_elements, 26, .inl g_elements)), ((px_rf hh rf) 20, .inl (c_fields, 26, .inl g_fields)), ((px_rf hh rf) 21, .inl (c_ranks, 26, .inl g_ranks)), ((px_rf hh rf) 22, .inl (c_kept, 89856, .inl g_kept)), ((px_rf hh rf) 23, .inl (c_keptSmall, 3744, .inl g_keptSmall)), ((px_rf hh rf) 46, .inl (c_sheet, 65536, .inl g_sheet)), ((px_rf hh rf) 48, .inl (c_decimals, 200, .inl g_decimals))] ++ px_np hh qq cN nv) sz)) 0 0 (va_A ([(h0, .inr (8, px_mf (px_rf hh rf) iv)), ((px_rf hh rf) 19, .inl (c_elements, 26, .inl g_elements)), ((px_rf hh rf) 20, .inl (c_fields, 26, .inl g_fields)), ((px_rf hh rf) 21, .inl (c_ranks, 26, .inl g_ranks)), ((px_rf hh rf) 22, .inl (c_kept, 89856, .inl g_kept)), ((px_rf hh rf) 23, .inl (c_keptSmall, 3744, .inl g_keptSmall)), ((px_rf hh rf) 46, .inl (c_sheet, 65536, .inl g_sheet)), ((px_rf hh rf) 48, .inl (c_decimals, 200, .inl g_decimals))] ++ px_np hh qq cN nv) sz) := by
  refine Met.ofW (cc := prog_15_method_79_code) (maxL := 6) (ret := none) (by decide) rfl ?_
  intro p e s m args below meth c s₁ B hml hv
  obtain ⟨rfl, hsz, hP, hK, hD0, hN⟩ := hv
  have hx := B.exec
  have hb := B.bytes
  have hr := B.returns
  have htw : ∀ w ∈ px_all, w.before _ s = true := fun w h => atoms_spec (ws := px_s108) B.pre w (List.mem_cons_of_mem _ h)
  have hown : s.vm.findClass "MatroidDeskModel" = some m.cls := findClass_of_methodNamed B.named
  have hlocks := B.notSynchronized
  subst hsz
  have hD := hD0.self (sz := s.heap.size)
  generalize hAe : va_A ([(h0, .inr (8, px_mf (px_rf hh rf) iv)), ((px_rf hh rf) 19, .inl (c_elements, 26, .inl g_elements)), ((px_rf hh rf) 20, .inl (c_fields, 26, .inl g_fields)), ((px_rf hh rf) 21, .inl (c_ranks, 26, .inl g_ranks)), ((px_rf hh rf) 22, .inl (c_kept, 89856, .inl g_kept)), ((px_rf hh rf) 23, .inl (c_keptSmall, 3744, .inl g_keptSmall)), ((px_rf hh rf) 46, .inl (c_sheet, 65536, .inl g_sheet)), ((px_rf hh rf) 48, .inl (c_decimals, 200, .inl g_decimals))] ++ px_np hh qq cN nv) s.heap.size = A at hD ⊢
  have hA : ∀ q : Nat, s.heap.size ≤ q → A q := fun q h => by rw [← hAe]; exact Or.inr h
  have hS : va_S A s.heap s.heap [] := va_S.rf
  have hP : va_P (dC, dI) vwCl ([(h0, .inr (8, px_mf (px_rf hh rf) iv)), ((px_rf hh rf) 19, .inl (c_elements, 26, .inl g_elements)), ((px_rf hh rf) 20, .inl (c_fields, 26, .inl g_fields)), ((px_rf hh rf) 21, .inl (c_ranks, 26, .inl g_ranks)), ((px_rf hh rf) 22, .inl (c_kept, 89856, .inl g_kept)), ((px_rf hh rf) 23, .inl (c_keptSmall, 3744, .inl g_keptSmall)), ((px_rf hh rf) 46, .inl (c_sheet, 65536, .inl g_sheet)), ((px_rf hh rf) 48, .inl (c_decimals, 200, .inl g_decimals))] ++ px_np hh qq cN nv) s.heap := hP
  have hl := lv_entry ([.ref h0, .int a1x]) (n := 6) (Nat.le_of_ble_eq_true rfl)
  rw [lg_entry_eq]
  generalize (lg_sl ([.ref h0, .int a1x]) ++ List.replicate (6 - (lg_sl ([.ref h0, .int a1x])).length) Slot.unset).toArray = ls at hl ⊢
  have hl : lv_has ls 6 [(0, .ref h0), (1, .int a1x)] := hl
  generalize hQ : MQ _ _ _ _ _ _ _ = Q
  have S2 : ∀ (k2 : Nat) (x1 : Int32) (x2 : Int32) (iv : Nat → Int32) (g_elements : Nat → Int32) (g_fields : Nat → Int32) (g_ranks : Nat → Int32) (g_kept : Nat → Int32) (g_keptSmall : Nat → Int32) (g_sheet : Nat → Int32) (g_decimals : Nat → Int32) (nv : Nat → px_NV) (H : Heap) (locs : List Loc) (ls : Array Slot), va_P (dC, dI) vwCl ([(h0, .inr (8, px_mf (px_rf hh rf) iv)), ((px_rf hh rf) 19, .inl (c_elements, 26, .inl g_elements)), ((px_rf hh rf) 20, .inl (c_fields, 26, .inl g_fields)), ((px_rf hh rf) 21, .inl (c_ranks, 26, .inl g_ranks)), ((px_rf hh rf) 22, .inl (c_kept, 89856, .inl g_kept)), ((px_rf hh rf) 23, .inl (c_keptSmall, 3744, .inl g_keptSmall)), ((px_rf hh rf) 46, .inl (c_sheet, 65536, .inl g_sheet)), ((px_rf hh rf) 48, .inl (c_decimals, 200, .inl g_decimals))] ++ px_np hh qq cN nv) H → va_D A ([(h0, .inr (8, px_mf (px_rf hh rf) iv)), ((px_rf hh rf) 19, .inl (c_elements, 26, .inl g_elements)), ((px_rf hh rf) 20, .inl (c_fields, 26, .inl g_fields)), ((px_rf hh rf) 21, .inl (c_ranks, 26, .inl g_ranks)), ((px_rf hh rf) 22, .inl (c_kept, 89856, .inl g_kept)), ((px_rf hh rf) 23, .inl (c_keptSmall, 3744, .inl g_keptSmall)), ((px_rf hh rf) 46, .inl (c_sheet, 65536, .inl g_sheet)), ((px_rf hh rf) 48, .inl (c_decimals, 200, .inl g_decimals))] ++ px_np hh qq cN nv) → va_S A s.heap H locs → lv_has ls 6 [(0, .ref h0), (1, .int x1), (2, .int x2)] → w108_L2 post k2 x1 x2 iv g_elements g_fields g_ranks g_kept g_keptSmall g_sheet g_decimals nv → W p l e (headSpec px_s108 ({ frames := 4, cells := 0, slots := 0, locals := 102 })).room s m ([.ref h0, .int a1x]).toArray below meth c H locs 0 0 Q (F0 m 2 ls []) := by
    intro k2
    induction k2 with
    | zero => intro x1 x2 iv g_elements g_fields g_ranks g_kept g_keptSmall g_sheet g_decimals nv H locs ls hP hD hS hl hw; exact False.elim hw
    | succ k2 ih2 =>
      have S22 : ∀ (k22 : Nat) (x1 : Int32) (x2 : Int32) (x3 : Int32) (x4 : Int32) (iv : Nat → Int32) (g_elements : Nat → Int32) (g_fields : Nat → Int32) (g_ranks : Nat → Int32) (g_kept : Nat → Int32) (g_keptSmall : Nat → Int32) (g_sheet : Nat → Int32) (g_decimals : Nat → Int32) (nv : Nat → px_NV) (H : Heap) (locs : List Loc) (ls : Array Slot), va_P (dC, dI) vwCl ([(h0, .inr (8, px_mf (px_rf hh rf) iv)), ((px_rf hh rf) 19, .inl (c_elements, 26, .inl g_elements)), ((px_rf hh rf) 20, .inl (c_fields, 26, .inl g_fields)), ((px_rf hh rf) 21, .inl (c_ranks, 26, .inl g_ranks)), ((px_rf hh rf) 22, .inl (c_kept, 89856, .inl g_kept)), ((px_rf hh rf) 23, .inl (c_keptSmall, 3744, .inl g_keptSmall)), ((px_rf hh rf) 46, .inl (c_sheet, 65536, .inl g_sheet)), ((px_rf hh rf) 48, .inl (c_decimals, 200, .inl g_decimals))] ++ px_np hh qq cN nv) H → va_D A ([(h0, .inr (8, px_mf (px_rf hh rf) iv)), ((px_rf hh rf) 19, .inl (c_elements, 26, .inl g_elements)), ((px_rf hh rf) 20, .inl (c_fields, 26, .inl g_fields)), ((px_rf hh rf) 21, .inl (c_ranks, 26, .inl g_ranks)), ((px_rf hh rf) 22, .inl (c_kept, 89856, .inl g_kept)), ((px_rf hh rf) 23, .inl (c_keptSmall, 3744, .inl g_keptSmall)), ((px_rf hh rf) 46, .inl (c_sheet, 65536, .inl g_sheet)), ((px_rf hh rf) 48, .inl (c_decimals, 200, .inl g_decimals))] ++ px_np hh qq cN nv) → va_S A s.heap H locs → lv_has ls 6 [(0, .ref h0), (1, .int x1), (2, .int x2), (3, .int x3), (4, .int x4)] → w108_L22 (w108_L2 post k2) post k22 x1 x2 x3 x4 iv g_elements g_fields g_ranks g_kept g_keptSmall g_sheet g_decimals nv → W p l e (headSpec px_s108 ({ frames := 4, cells := 0, slots := 0, locals := 102 })).room s m ([.ref h0, .int a1x]).toArray below meth c H locs 0 0 Q (F0 m 22 ls []) := by
        intro k22
        induction k22 with
        | zero => intro x1 x2 x3 x4 iv g_elements g_fields g_ranks g_kept g_keptSmall g_sheet g_decimals nv H locs ls hP hD hS hl hw; exact False.elim hw
        | succ k22 ih22 =>
          have S212 : ∀ (x1 : Int32) (x2 : Int32) (x3 : Int32) (x4 : Int32) (x5 : Int32) (iv : Nat → Int32) (g_elements : Nat → Int32) (g_fields : Nat → Int32) (g_ranks : Nat → Int32) (g_kept : Nat → Int32) (g_keptSmall : Nat → Int32) (g_sheet : Nat → Int32) (g_decimals : Nat → Int32) (nv : Nat → px_NV) (H : Heap) (locs : List Loc) (ls : Array Slot), va_P (dC, dI) vwCl ([(h0, .inr (8, px_mf (px_rf hh rf) iv)), ((px_rf hh rf) 19, .inl (c_elements, 26, .inl g_elements)), ((px_rf hh rf) 20, .inl (c_fields, 26, .inl g_fields)), ((px_rf hh rf) 21, .inl (c_ranks, 26, .inl g_ranks)), ((px_rf hh rf) 22, .inl (c_kept, 89856, .inl g_kept)), ((px_rf hh rf) 23, .inl (c_keptSmall, 3744, .inl g_keptSmall)), ((px_rf hh rf) 46, .inl (c_sheet, 65536, .inl g_sheet)), ((px_rf hh rf) 48, .inl (c_decimals, 200, .inl g_decimals))] ++ px_np hh qq cN nv) H → va_D A ([(h0, .inr (8, px_mf (px_rf hh rf) iv)), ((px_rf hh rf) 19, .inl (c_elements, 26, .inl g_elements)), ((px_rf hh rf) 20, .inl (c_fields, 26, .inl g_fields)), ((px_rf hh rf) 21, .inl (c_ranks, 26, .inl g_ranks)), ((px_rf hh rf) 22, .inl (c_kept, 89856, .inl g_kept)), ((px_rf hh rf) 23, .inl (c_keptSmall, 3744, .inl g_keptSmall)), ((px_rf hh rf) 46, .inl (c_sheet, 65536, .inl g_sheet)), ((px_rf hh rf) 48, .inl (c_decimals, 200, .inl g_decimals))] ++ px_np hh qq cN nv) → va_S A s.heap H locs → lv_has ls 6 [(0, .ref h0), (1, .int x1), (2, .int x2), (3, .int x3), (4, .int x4), (5, .int x5)] → w108_L212 (w108_L2 post k2) (w108_L22 (w108_L2 post k2) post k22) post x1 x2 x3 x4 x5 iv g_elements g_fields g_ranks g_kept g_keptSmall g_sheet g_decimals nv → W p l e (headSpec px_s108 ({ frames := 4, cells := 0, slots := 0, locals := 102 })).room s m ([.ref h0, .int a1x]).toArray below meth c H locs 0 0 Q (F0 m 212 ls []) := by
            intro x1 x2 x3 x4 x5 iv g_elements g_fields g_ranks g_kept g_keptSmall g_sheet g_decimals nv H locs ls hP hD hS hl hw
            unfold w108_L212 at hw
            obtain ⟨z1, ez1⟩ : ∃ y : Int32, y = x4 + 1 := ⟨_, rfl⟩
            have hw := hw z1 ez1
            refine lv_iinc (v := z1) (lv' := [(4, .int z1), (0, .ref h0), (1, .int x1), (2, .int x2), (3, .int x3), (5, .int x5)]) hx hb px_d108_212 hl (k := 4) rfl (by rw [ez1]; rfl) (by decide) rfl (fun ls hl => ?_)
            refine lv_goto (tgt := 22) hx hb px_d108_215 (by decide) ?_
            exact ih22 x1 x2 x3 z1 iv g_elements g_fields g_ranks g_kept g_keptSmall g_sheet g_decimals nv H locs ls hP hD hS (lv_sub hl [1, 2, 3, 4, 0] rfl) hw
          have S44 : ∀ (x1 : Int32) (x2 : Int32) (x3 : Int32) (x4 : Int32) (iv : Nat → Int32) (g_elements : Nat → Int32) (g_fields : Nat → Int32) (g_ranks : Nat → Int32) (g_kept : Nat → Int32) (g_keptSmall : Nat → Int32) (g_sheet : Nat → Int32) (g_decimals : Nat → Int32) (nv : Nat → px_NV) (H : Heap) (locs : List Loc) (ls : Array Slot), va_P (dC, dI) vwCl ([(h0, .inr (8, px_mf (px_rf hh rf) iv)), ((px_rf hh rf) 19, .inl (c_elements, 26, .inl g_elements)), ((px_rf hh rf) 20, .inl (c_fields, 26, .inl g_fields)), ((px_rf hh rf) 21, .inl (c_ranks, 26, .inl g_ranks)), ((px_rf hh rf) 22, .inl (c_kept, 89856, .inl g_kept)), ((px_rf hh rf) 23, .inl (c_keptSmall, 3744, .inl g_keptSmall)), ((px_rf hh rf) 46, .inl (c_sheet, 65536, .inl g_sheet)), ((px_rf hh rf) 48, .inl (c_decimals, 200, .inl g_decimals))] ++ px_np hh qq cN nv) H → va_D A ([(h0, .inr (8, px_mf (px_rf hh rf) iv)), ((px_rf hh rf) 19, .inl (c_elements, 26, .inl g_elements)), ((px_rf hh rf) 20, .inl (c_fields, 26, .inl g_fields)), ((px_rf hh rf) 21, .inl (c_ranks, 26, .inl g_ranks)), ((px_rf hh rf) 22, .inl (c_kept, 89856, .inl g_kept)), ((px_rf hh rf) 23, .inl (c_keptSmall, 3744, .inl g_keptSmall)), ((px_rf hh rf) 46, .inl (c_sheet, 65536, .inl g_sheet)), ((px_rf hh rf) 48, .inl (c_decimals, 200, .inl g_decimals))] ++ px_np hh qq cN nv) → va_S A s.heap H locs → lv_has ls 6 [(0, .ref h0), (1, .int x1), (2, .int x2), (3, .int x3), (4, .int x4)] → w108_L44 (w108_L2 post k2) (w108_L22 (w108_L2 post k2) post k22) post x1 x2 x3 x4 iv g_elements g_fields g_ranks g_kept g_keptSmall g_sheet g_decimals nv → W p l e (headSpec px_s108 ({ frames := 4, cells := 0, slots := 0, locals := 102 })).room s m ([.ref h0, .int a1x]).toArray below meth c H locs 0 0 Q (F0 m 44 ls []) := by
            intro x1 x2 x3 x4 iv g_elements g_fields g_ranks g_kept g_keptSmall g_sheet g_decimals nv H locs ls hP hD hS hl hw
            unfold w108_L44 at hw
            refine lv_sipush (v := 144) hx hb px_d108_44 (by decide) ?_
            refine lv_iload_n hx hb px_d108_47 rfl (lv_at hl 1 rfl) ?_
            refine lv_imul hx hb px_d108_48 ?_
            refine lv_bipush (v := 12) hx hb px_d108_49 (by decide) ?_
            refine lv_iload_n hx hb px_d108_51 rfl (lv_at hl 2 rfl) ?_
            refine lv_imul hx hb px_d108_52 ?_
            refine lv_iadd hx hb px_d108_53 ?_
            refine lv_iload hx hb px_d108_54 (lv_at hl 4 rfl) ?_
            refine lv_iadd hx hb px_d108_56 ?_
            refine lv_topi (fun z2 ez2 => ?_)
            have hw := hw z2 ez2
            refine lv_istore (lv' := [(5, .int z2), (0, .ref h0), (1, .int x1), (2, .int x2), (3, .int x3), (4, .int x4)]) hx hb px_d108_57 hl (by decide) rfl (fun ls hl => ?_)
            refine lv_aload_n hx hb px_d108_59 rfl (lv_at hl 1 rfl) ?_
            refine va_get (D := (dC, dI)) (ci := 8) (v := .ref ((px_rf hh rf) 20)) (C := "MatroidDeskModel") (T := px_T8) (N := 53) hx hb htw px_in8 hown hK hP 0 rfl rfl 20 (by decide) (htw _ px_w503) (fun _ h9 => h9) rfl px_d108_60 ?_
            refine lv_iload_n hx hb px_d108_63 rfl (lv_at hl 2 rfl) ?_
            obtain ⟨hi64, hw⟩ := hw
            refine va_iald hx hb hK hP 2 1 rfl rfl hi64 px_d108_64 ?_
            refine lv_if_le (tgt := 83) hx hb px_d108_65 (by decide) (fun c65 => ?_) (fun c65 => ?_)
            · have hw := hw.1 c65
              refine lv_aload_n hx hb px_d108_83 rfl (lv_at hl 1 rfl) ?_
              refine lv_aload_n hx hb px_d108_84 rfl (lv_at hl 1 rfl) ?_
              refine va_get (D := (dC, dI)) (ci := 8) (v := .ref (hh 197)) (C := "MatroidDeskModel") (T := px_T8) (N := 53) hx hb htw px_in8 hown hK hP 0 rfl rfl 5 (by decide) (htw _ px_w451) (fun _ h9 => h9) rfl px_d108_85 ?_
              refine lv_bipush (v := 24) hx hb px_d108_88 (by decide) ?_
              refine lv_iload hx hb px_d108_90 (lv_at hl 0 rfl) ?_
              refine lv_imul hx hb px_d108_92 ?_
              have hPc := hP.part (cx := [(h0, .inr (8, px_mf (px_rf hh rf) iv)), ((px_rf hh rf) 22, .inl (c_kept, 89856, .inl g_kept))]) [0, 4] rfl
              have hDc := hD.part (cx := [(h0, .inr (8, px_mf (px_rf hh rf) iv)), ((px_rf hh rf) 22, .inl (c_kept, 89856, .inl g_kept))]) [0, 4] (by decide) rfl
              have hFc := va_freeP (cx := [(h0, .inr (8, px_mf (px_rf hh rf) iv)), ((px_rf hh rf) 22, .inl (c_kept, 89856, .inl g_kept))]) hD hS hA [0, 4] rfl
              have hKc := hK.sub (tys' := [(c_kept, .int), (cN, .int)]) [3, 7] rfl
              refine va_callv (va_runV (As := [.ref (hh 197), .int (24 * z2)]) (rest := []) ⟨hx, hb, hml, hown, htw⟩ (w65_met l dC dI H.size h0 rf hh qq cN 197 c_kept (24 * z2) iv g_kept nv _ hw) (cwV 2 htw (px_gv px_w547 px_w531 px_w532 px_w94 px_g65) rfl rfl rfl (by decide +kernel) ⟨Nat.le_of_ble_eq_true rfl, Nat.le_of_ble_eq_true rfl⟩) ⟨fun a U g mk q => by obtain ⟨q0, q1, qP, qK, qD, qN⟩ := q; exact ⟨q0, q1, qP, va_K.moved (u := U) (U := U.calling g mk a) (Vm.Alike.refl U.vm) qK, qD, qN.same rfl⟩, va_recv hK hP (ci := 8) (q0 := 0) rfl rfl, fun U hU hW => ⟨rfl, by rw [hU], by rw [hU]; exact hPc, va_K.moved hW.alike hKc, hDc.weaken (fun _ _ _ _ => trivial), hN.warm hW⟩⟩ rfl rfl hl.1 rfl (lv_room (Nat.le_of_ble_eq_true rfl)) px_d108_93 ⟨(Nat.le_of_ble_eq_true rfl), (Nat.le_of_ble_eq_true rfl)⟩) hS (fun q _ h => hFc q h) hFc (fun u t H1 locs ht hvm hw hB hz1 hk1 hS => ?_)
              obtain ⟨v3, v4, v5⟩ := u
              obtain ⟨hP1, hK1, hD1⟩ := hB
              rw [ht] at hP1
              obtain ⟨hP, hD⟩ := va_joinP (wr := [((px_rf hh rf) 19, .inl (c_elements, 26, .inl g_elements)), ((px_rf hh rf) 20, .inl (c_fields, 26, .inl g_fields)), ((px_rf hh rf) 21, .inl (c_ranks, 26, .inl g_ranks)), ((px_rf hh rf) 23, .inl (c_keptSmall, 3744, .inl g_keptSmall)), ((px_rf hh rf) 46, .inl (c_sheet, 65536, .inl g_sheet)), ((px_rf hh rf) 48, .inl (c_decimals, 200, .inl g_decimals))]) (rx := [(h0, .inr (8, px_mf (px_rf hh rf) v3)), ((px_rf hh rf) 22, .inl (c_kept, 89856, .inl v4))]) hP hD [0, 4] [1, 2, 3, 5, 6, 7] rfl rfl (by decide) (by decide) hk1 hFc hP1 hD1
              generalize H1 = H at hP hS ⊢
              have hP : va_P (dC, dI) vwCl ([((px_rf hh rf) 19, .inl (c_elements, 26, .inl g_elements)), ((px_rf hh rf) 20, .inl (c_fields, 26, .inl g_fields)), ((px_rf hh rf) 21, .inl (c_ranks, 26, .inl g_ranks)), ((px_rf hh rf) 23, .inl (c_keptSmall, 3744, .inl g_keptSmall)), ((px_rf hh rf) 46, .inl (c_sheet, 65536, .inl g_sheet)), ((px_rf hh rf) 48, .inl (c_decimals, 200, .inl g_decimals)), (h0, .inr (8, px_mf (px_rf hh rf) v3)), ((px_rf hh rf) 22, .inl (c_kept, 89856, .inl v4))] ++ px_np hh qq cN v5) H := hP
              have hD : va_D A ([((px_rf hh rf) 19, .inl (c_elements, 26, .inl g_elements)), ((px_rf hh rf) 20, .inl (c_fields, 26, .inl g_fields)), ((px_rf hh rf) 21, .inl (c_ranks, 26, .inl g_ranks)), ((px_rf hh rf) 23, .inl (c_keptSmall, 3744, .inl g_keptSmall)), ((px_rf hh rf) 46, .inl (c_sheet, 65536, .inl g_sheet)), ((px_rf hh rf) 48, .inl (c_decimals, 200, .inl g_decimals)), (h0, .inr (8, px_mf (px_rf hh rf) v3)), ((px_rf hh rf) 22, .inl (c_kept, 89856, .inl v4))] ++ px_np hh qq cN v5) := hD
              have hP := hP.part (cx := [(h0, .inr (8, px_mf (px_rf hh rf) v3)), ((px_rf hh rf) 19, .inl (c_elements, 26, .inl g_elements)), ((px_rf hh rf) 20, .inl (c_fields, 26, .inl g_fields)), ((px_rf hh rf) 21, .inl (c_ranks, 26, .inl g_ranks)), ((px_rf hh rf) 22, .inl (c_kept, 89856, .inl v4)), ((px_rf hh rf) 23, .inl (c_keptSmall, 3744, .inl g_keptSmall)), ((px_rf hh rf) 46, .inl (c_sheet, 65536, .inl g_sheet)), ((px_rf hh rf) 48, .inl (c_decimals, 200, .inl g_decimals))]) [6, 0, 1, 2, 7, 3, 4, 5] rfl
              have hD := hD.part (cx := [(h0, .inr (8, px_mf (px_rf hh rf) v3)), ((px_rf hh rf) 19, .inl (c_elements, 26, .inl g_elements)), ((px_rf hh rf) 20, .inl (c_fields, 26, .inl g_fields)), ((px_rf hh rf) 21, .inl (c_ranks, 26, .inl g_ranks)), ((px_rf hh rf) 22, .inl (c_kept, 89856, .inl v4)), ((px_rf hh rf) 23, .inl (c_keptSmall, 3744, .inl g_keptSmall)), ((px_rf hh rf) 46, .inl (c_sheet, 65536, .inl g_sheet)), ((px_rf hh rf) 48, .inl (c_decimals, 200, .inl g_decimals))]) [6, 0, 1, 2, 7, 3, 4, 5] (by decide) rfl
              refine lv_aload_n hx hb px_d108_96 rfl (lv_at hl 1 rfl) ?_
              refine lv_aload_n hx hb px_d108_97 rfl (lv_at hl 1 rfl) ?_
              refine va_get (D := (dC, dI)) (ci := 8) (v := .ref (hh 198)) (C := "MatroidDeskModel") (T := px_T8) (N := 53) hx hb htw px_in8 hown hK hP 0 rfl rfl 6 (by decide) (htw _ px_w452) (fun _ h9 => h9) rfl px_d108_98 ?_
              refine lv_bipush (v := 24) hx hb px_d108_101 (by decide) ?_
              refine lv_sipush (v := 144) hx hb px_d108_103 (by decide) ?_
              refine lv_iload_n hx hb px_d108_106 rfl (lv_at hl 2 rfl) ?_
              refine lv_imul hx hb px_d108_107 ?_
              refine lv_bipush (v := 12) hx hb px_d108_108 (by decide) ?_
              refine lv_iload_n hx hb px_d108_110 rfl (lv_at hl 3 rfl) ?_
              refine lv_imul hx hb px_d108_111 ?_
              refine lv_iadd hx hb px_d108_112 ?_
              refine lv_iload_n hx hb px_d108_113 rfl (lv_at hl 4 rfl) ?_
              refine lv_iadd hx hb px_d108_114 ?_
              refine lv_imul hx hb px_d108_115 ?_
              have hPc := hP.part (cx := [(h0, .inr (8, px_mf (px_rf hh rf) v3)), ((px_rf hh rf) 22, .inl (c_kept, 89856, .inl v4))]) [0, 4] rfl
              have hDc := hD.part (cx := [(h0, .inr (8, px_mf (px_rf hh rf) v3)), ((px_rf hh rf) 22, .inl (c_kept, 89856, .inl v4))]) [0, 4] (by decide) rfl
              have hFc := va_freeP (cx := [(h0, .inr (8, px_mf (px_rf hh rf) v3)), ((px_rf hh rf) 22, .inl (c_kept, 89856, .inl v4))]) hD hS hA [0, 4] rfl
              have hKc := hK.sub (tys' := [(c_kept, .int), (cN, .int)]) [3, 7] rfl
              refine va_callv (va_runV (As := [.ref (hh 198), .int (24 * (((144 * x1) + (12 * x2)) + x3))]) (rest := []) ⟨hx, hb, hml, hown, htw⟩ (w65_met l dC dI H.size h0 rf hh qq cN 198 c_kept (24 * (((144 * x1) + (12 * x2)) + x3)) v3 v4 v5 _ hw) (cwV 2 htw (px_gv px_w547 px_w531 px_w532 px_w94 px_g65) rfl rfl rfl (by decide +kernel) ⟨Nat.le_of_ble_eq_true rfl, Nat.le_of_ble_eq_true rfl⟩) ⟨fun a U g mk q => by obtain ⟨q0, q1, qP, qK, qD, qN⟩ := q; exact ⟨q0, q1, qP, va_K.moved (u := U) (U := U.calling g mk a) (Vm.Alike.refl U.vm) qK, qD, qN.same rfl⟩, va_recv hK hP (ci := 8) (q0 := 0) rfl rfl, fun U hU hW => ⟨rfl, by rw [hU], by rw [hU]; exact hPc, va_K.moved hW.alike hKc, hDc.weaken (fun _ _ _ _ => trivial), hN.warm hW⟩⟩ rfl rfl hl.1 rfl (lv_room (Nat.le_of_ble_eq_true rfl)) px_d108_116 ⟨(Nat.le_of_ble_eq_true rfl), (Nat.le_of_ble_eq_true rfl)⟩) hS (fun q _ h => hFc q h) hFc (fun u t H1 locs ht hvm hw hB hz1 hk1 hS => ?_)
              obtain ⟨v7, v8, v9⟩ := u
              obtain ⟨hP1, hK1, hD1⟩ := hB
              rw [ht] at hP1
              obtain ⟨hP, hD⟩ := va_joinP (wr := [((px_rf hh rf) 19, .inl (c_elements, 26, .inl g_elements)), ((px_rf hh rf) 20, .inl (c_fields, 26, .inl g_fields)), ((px_rf hh rf) 21, .inl (c_ranks, 26, .inl g_ranks)), ((px_rf hh rf) 23, .inl (c_keptSmall, 3744, .inl g_keptSmall)), ((px_rf hh rf) 46, .inl (c_sheet, 65536, .inl g_sheet)), ((px_rf hh rf) 48, .inl (c_decimals, 200, .inl g_decimals))]) (rx := [(h0, .inr (8, px_mf (px_rf hh rf) v7)), ((px_rf hh rf) 22, .inl (c_kept, 89856, .inl v8))]) hP hD [0, 4] [1, 2, 3, 5, 6, 7] rfl rfl (by decide) (by decide) hk1 hFc hP1 hD1
              generalize H1 = H at hP hS ⊢
              have hP : va_P (dC, dI) vwCl ([((px_rf hh rf) 19, .inl (c_elements, 26, .inl g_elements)), ((px_rf hh rf) 20, .inl (c_fields, 26, .inl g_fields)), ((px_rf hh rf) 21, .inl (c_ranks, 26, .inl g_ranks)), ((px_rf hh rf) 23, .inl (c_keptSmall, 3744, .inl g_keptSmall)), ((px_rf hh rf) 46, .inl (c_sheet, 65536, .inl g_sheet)), ((px_rf hh rf) 48, .inl (c_decimals, 200, .inl g_decimals)), (h0, .inr (8, px_mf (px_rf hh rf) v7)), ((px_rf hh rf) 22, .inl (c_kept, 89856, .inl v8))] ++ px_np hh qq cN v9) H := hP
              have hD : va_D A ([((px_rf hh rf) 19, .inl (c_elements, 26, .inl g_elements)), ((px_rf hh rf) 20, .inl (c_fields, 26, .inl g_fields)), ((px_rf hh rf) 21, .inl (c_ranks, 26, .inl g_ranks)), ((px_rf hh rf) 23, .inl (c_keptSmall, 3744, .inl g_keptSmall)), ((px_rf hh rf) 46, .inl (c_sheet, 65536, .inl g_sheet)), ((px_rf hh rf) 48, .inl (c_decimals, 200, .inl g_decimals)), (h0, .inr (8, px_mf (px_rf hh rf) v7)), ((px_rf hh rf) 22, .inl (c_kept, 89856, .inl v8))] ++ px_np hh qq cN v9) := hD
              have hP := hP.part (cx := [(h0, .inr (8, px_mf (px_rf hh rf) v7)), ((px_rf hh rf) 19, .inl (c_elements, 26, .inl g_elements)), ((px_rf hh rf) 20, .inl (c_fields, 26, .inl g_fields)), ((px_rf hh rf) 21, .inl (c_ranks, 26, .inl g_ranks)), ((px_rf hh rf) 22, .inl (c_kept, 89856, .inl v8)), ((px_rf hh rf) 23, .inl (c_keptSmall, 3744, .inl g_keptSmall)), ((px_rf hh rf) 46, .inl (c_sheet, 65536, .inl g_sheet)), ((px_rf hh rf) 48, .inl (c_decimals, 200, .inl g_decimals))]) [6, 0, 1, 2, 7, 3, 4, 5] rfl
              have hD := hD.part (cx := [(h0, .inr (8, px_mf (px_rf hh rf) v7)), ((px_rf hh rf) 19, .inl (c_elements, 26, .inl g_elements)), ((px_rf hh rf) 20, .inl (c_fields, 26, .inl g_fields)), ((px_rf hh rf) 21, .inl (c_ranks, 26, .inl g_ranks)), ((px_rf hh rf) 22, .inl (c_kept, 89856, .inl v8)), ((px_rf hh rf) 23, .inl (c_keptSmall, 3744, .inl g_keptSmall)), ((px_rf hh rf) 46, .inl (c_sheet, 65536, .inl g_sheet)), ((px_rf hh rf) 48, .inl (c_decimals, 200, .inl g_decimals))]) [6, 0, 1, 2, 7, 3, 4, 5] (by decide) rfl
              refine lv_aload_n hx hb px_d108_119 rfl (lv_at hl 1 rfl) ?_
              refine lv_aload_n hx hb px_d108_120 rfl (lv_at hl 1 rfl) ?_
              refine va_get (D := (dC, dI)) (ci := 8) (v := .ref (hh 197)) (C := "MatroidDeskModel") (T := px_T8) (N := 53) hx hb htw px_in8 hown hK hP 0 rfl rfl 5 (by decide) (htw _ px_w451) (fun _ h9 => h9) rfl px_d108_121 ?_
              refine lv_aload_n hx hb px_d108_124 rfl (lv_at hl 1 rfl) ?_
              refine va_get (D := (dC, dI)) (ci := 8) (v := .ref (hh 198)) (C := "MatroidDeskModel") (T := px_T8) (N := 53) hx hb htw px_in8 hown hK hP 0 rfl rfl 6 (by decide) (htw _ px_w452) (fun _ h9 => h9) rfl px_d108_125 ?_
              have hPc := hP.part (cx := [(h0, .inr (8, px_mf (px_rf hh rf) v7))]) [0] rfl
              have hDc := hD.part (cx := [(h0, .inr (8, px_mf (px_rf hh rf) v7))]) [0] (by decide) rfl
              have hFc := va_freeP (cx := [(h0, .inr (8, px_mf (px_rf hh rf) v7))]) hD hS hA [0] rfl
              have hKc := hK.sub (tys' := [(cN, .int)]) [7] rfl
              refine va_callv (va_runV (As := [.ref (hh 197), .ref (hh 198)]) (rest := []) ⟨hx, hb, hml, hown, htw⟩ (w46_met l dC dI H.size h0 rf hh qq cN 197 198 v7 v9 _ hw) (cwV 2 htw (px_gv px_w461 px_w411 px_w412 px_w94 px_g46) rfl rfl rfl (by decide +kernel) ⟨Nat.le_of_ble_eq_true rfl, Nat.le_of_ble_eq_true rfl⟩) ⟨fun a U g mk q => by obtain ⟨q0, q1, qP, qK, qD, qN⟩ := q; exact ⟨q0, q1, qP, va_K.moved (u := U) (U := U.calling g mk a) (Vm.Alike.refl U.vm) qK, qD, qN.same rfl⟩, va_recv hK hP (ci := 8) (q0 := 0) rfl rfl, fun U hU hW => ⟨rfl, by rw [hU], by rw [hU]; exact hPc, va_K.moved hW.alike hKc, hDc.weaken (fun _ _ _ _ => trivial), hN.warm hW⟩⟩ rfl rfl hl.1 rfl (lv_room (Nat.le_of_ble_eq_true rfl)) px_d108_128 ⟨(Nat.le_of_ble_eq_true rfl), (Nat.le_of_ble_eq_true rfl)⟩) hS (fun q _ h => hFc q h) hFc (fun u t H1 locs ht hvm hw hB hz1 hk1 hS => ?_)
              obtain ⟨v11, v12⟩ := u
              obtain ⟨hP1, hK1, hD1⟩ := hB
              rw [ht] at hP1
              obtain ⟨hP, hD⟩ := va_joinP (wr := [((px_rf hh rf) 19, .inl (c_elements, 26, .inl g_elements)), ((px_rf hh rf) 20, .inl (c_fields, 26, .inl g_fields)), ((px_rf hh rf) 21, .inl (c_ranks, 26, .inl g_ranks)), ((px_rf hh rf) 22, .inl (c_kept, 89856, .inl v8)), ((px_rf hh rf) 23, .inl (c_keptSmall, 3744, .inl g_keptSmall)), ((px_rf hh rf) 46, .inl (c_sheet, 65536, .inl g_sheet)), ((px_rf hh rf) 48, .inl (c_decimals, 200, .inl g_decimals))]) (rx := [(h0, .inr (8, px_mf (px_rf hh rf) v11))]) hP hD [0] [1, 2, 3, 4, 5, 6, 7] rfl rfl (by decide) (by decide) hk1 hFc hP1 hD1
              generalize H1 = H at hP hS ⊢
              have hP : va_P (dC, dI) vwCl ([((px_rf hh rf) 19, .inl (c_elements, 26, .inl g_elements)), ((px_rf hh rf) 20, .inl (c_fields, 26, .inl g_fields)), ((px_rf hh rf) 21, .inl (c_ranks, 26, .inl g_ranks)), ((px_rf hh rf) 22, .inl (c_kept, 89856, .inl v8)), ((px_rf hh rf) 23, .inl (c_keptSmall, 3744, .inl g_keptSmall)), ((px_rf hh rf) 46, .inl (c_sheet, 65536, .inl g_sheet)), ((px_rf hh rf) 48, .inl (c_decimals, 200, .inl g_decimals)), (h0, .inr (8, px_mf (px_rf hh rf) v11))] ++ px_np hh qq cN v12) H := hP
              have hD : va_D A ([((px_rf hh rf) 19, .inl (c_elements, 26, .inl g_elements)), ((px_rf hh rf) 20, .inl (c_fields, 26, .inl g_fields)), ((px_rf hh rf) 21, .inl (c_ranks, 26, .inl g_ranks)), ((px_rf hh rf) 22, .inl (c_kept, 89856, .inl v8)), ((px_rf hh rf) 23, .inl (c_keptSmall, 3744, .inl g_keptSmall)), ((px_rf hh rf) 46, .inl (c_sheet, 65536, .inl g_sheet)), ((px_rf hh rf) 48, .inl (c_decimals, 200, .inl g_decimals)), (h0, .inr (8, px_mf (px_rf hh rf) v11))] ++ px_np hh qq cN v12) := hD
              have hP := hP.part (cx := [(h0, .inr (8, px_mf (px_rf hh rf) v11)), ((px_rf hh rf) 19, .inl (c_elements, 26, .inl g_elements)), ((px_rf hh rf) 20, .inl (c_fields, 26, .inl g_fields)), ((px_rf hh rf) 21, .inl (c_ranks, 26, .inl g_ranks)), ((px_rf hh rf) 22, .inl (c_kept, 89856, .inl v8)), ((px_rf hh rf) 23, .inl (c_keptSmall, 3744, .inl g_keptSmall)), ((px_rf hh rf) 46, .inl (c_sheet, 65536, .inl g_sheet)), ((px_rf hh rf) 48, .inl (c_decimals, 200, .inl g_decimals))]) [7, 0, 1, 2, 3, 4, 5, 6] rfl
              have hD := hD.part (cx := [(h0, .inr (8, px_mf (px_rf hh rf) v11)), ((px_rf hh rf) 19, .inl (c_elements, 26, .inl g_elements)), ((px_rf hh rf) 20, .inl (c_fields, 26, .inl g_fields)), ((px_rf hh rf) 21, .inl (c_ranks, 26, .inl g_ranks)), ((px_rf hh rf) 22, .inl (c_kept, 89856, .inl v8)), ((px_rf hh rf) 23, .inl (c_keptSmall, 3744, .inl g_keptSmall)), ((px_rf hh rf) 46, .inl (c_sheet, 65536, .inl g_sheet)), ((px_rf hh rf) 48, .inl (c_decimals, 200, .inl g_decimals))]) [7, 0, 1, 2, 3, 4, 5, 6] (by decide) rfl
              refine lv_aload_n hx hb px_d108_131 rfl (lv_at hl 1 rfl) ?_
              refine va_get (D := (dC, dI)) (ci := 8) (v := .ref (hh 199)) (C := "MatroidDeskModel") (T := px_T8) (N := 53) hx hb htw px_in8 hown hK hP 0 rfl rfl 7 (by decide) (htw _ px_w459) (fun _ h9 => h9) rfl px_d108_132 ?_
              refine lv_aload_n hx hb px_d108_135 rfl (lv_at hl 1 rfl) ?_
              refine va_get (D := (dC, dI)) (ci := 8) (v := .ref (hh 196)) (C := "MatroidDeskModel") (T := px_T8) (N := 53) hx hb htw px_in8 hown hK hP 0 rfl rfl 4 (by decide) (htw _ px_w413) (fun _ h9 => h9) rfl px_d108_136 ?_
              obtain ⟨hk139, hw⟩ := hw
              have hPc : va_P (dC, dI) vwCl [(hh 199, .inr (9, [.ref (qq 199), .int ((v12 199).1), .int ((v12 199).2.1)])), (qq 199, .inl (cN, 160, .inl ((v12 199).2.2))), (hh 196, .inr (9, [.ref (qq 196), .int ((v12 196).1), .int ((v12 196).2.1)])), (qq 196, .inl (cN, 160, .inl ((v12 196).2.2)))] H := px_outP hP [199, 196] hk139
              have hDc : va_D A [(hh 199, .inr (9, [.ref (qq 199), .int ((v12 199).1), .int ((v12 199).2.1)])), (qq 199, .inl (cN, 160, .inl ((v12 199).2.2))), (hh 196, .inr (9, [.ref (qq 196), .int ((v12 196).1), .int ((v12 196).2.1)])), (qq 196, .inl (cN, 160, .inl ((v12 196).2.2)))] := px_outD hD [199, 196] hk139
              have hFc : ∀ q, va_A [(hh 199, .inr (9, [.ref (qq 199), .int ((v12 199).1), .int ((v12 199).2.1)])), (qq 199, .inl (cN, 160, .inl ((v12 199).2.2))), (hh 196, .inr (9, [.ref (qq 196), .int ((v12 196).1), .int ((v12 196).2.1)])), (qq 196, .inl (cN, 160, .inl ((v12 196).2.2)))] H.size q → A q := px_outF hD hS hA [199, 196] hk139
              have hKc := hK.sub (tys' := [(cN, .int), (cN, .int)]) [7, 7] rfl
              refine va_callv (va_runV (As := [.ref (hh 196)]) (rest := []) ⟨hx, hb, hml, hown, htw⟩ (ncp_met l dC dI H.size (hh 199) (qq 199) (hh 196) (qq 196) cN cN ((v12 199).1) ((v12 199).2.1) ((v12 199).2.2) ((v12 196).1) ((v12 196).2.1) ((v12 196).2.2) _ hw) (cwV 1 htw (px_gv px_w414 px_w274 px_w275 px_w149 px_g10) rfl rfl rfl (by decide +kernel) ⟨Nat.le_of_ble_eq_true rfl, Nat.le_of_ble_eq_true rfl⟩) ⟨fun a U g mk q => by obtain ⟨q0, q1, qP, qK, qD, qN⟩ := q; exact ⟨q0, q1, qP, va_K.moved (u := U) (U := U.calling g mk a) (Vm.Alike.refl U.vm) qK, qD, qN.same rfl⟩, va_recv hK hPc (ci := 9) (q0 := 0) rfl rfl, fun U hU hW => ⟨rfl, by rw [hU], by rw [hU]; exact hPc, va_K.moved hW.alike hKc, hDc.weaken (fun _ _ _ _ => trivial), hN.warm hW⟩⟩ rfl rfl hl.1 rfl (lv_room (Nat.le_of_ble_eq_true rfl)) px_d108_139 ⟨(Nat.le_of_ble_eq_true rfl), (Nat.le_of_ble_eq_true rfl)⟩) hS (fun q _ h => hFc q h) hFc (fun u t H1 locs ht hvm hw hB hz1 hk1 hS => ?_)
              obtain ⟨v14, v15, v16, v17, v18, v19⟩ := u
              obtain ⟨hP1, hK1, hD1⟩ := hB
              rw [ht] at hP1
              obtain ⟨nv21, env21⟩ : ∃ z : Nat → px_NV, z = px_fold v12 [(199, ⟨v14, v15, v16⟩), (196, ⟨v17, v18, v19⟩)] := ⟨_, rfl⟩
              have hw := hw nv21 env21
              obtain ⟨hP, hD⟩ := px_in hP hD [199, 196] hk139 [(199, ⟨v14, v15, v16⟩), (196, ⟨v17, v18, v19⟩)] rfl hk1 hP1 env21
              generalize H1 = H at hP hS ⊢
              have hP : va_P (dC, dI) vwCl ([(h0, .inr (8, px_mf (px_rf hh rf) v11)), ((px_rf hh rf) 19, .inl (c_elements, 26, .inl g_elements)), ((px_rf hh rf) 20, .inl (c_fields, 26, .inl g_fields)), ((px_rf hh rf) 21, .inl (c_ranks, 26, .inl g_ranks)), ((px_rf hh rf) 22, .inl (c_kept, 89856, .inl v8)), ((px_rf hh rf) 23, .inl (c_keptSmall, 3744, .inl g_keptSmall)), ((px_rf hh rf) 46, .inl (c_sheet, 65536, .inl g_sheet)), ((px_rf hh rf) 48, .inl (c_decimals, 200, .inl g_decimals))] ++ px_np hh qq cN nv21) H := hP
              have hD : va_D A ([(h0, .inr (8, px_mf (px_rf hh rf) v11)), ((px_rf hh rf) 19, .inl (c_elements, 26, .inl g_elements)), ((px_rf hh rf) 20, .inl (c_fields, 26, .inl g_fields)), ((px_rf hh rf) 21, .inl (c_ranks, 26, .inl g_ranks)), ((px_rf hh rf) 22, .inl (c_kept, 89856, .inl v8)), ((px_rf hh rf) 23, .inl (c_keptSmall, 3744, .inl g_keptSmall)), ((px_rf hh rf) 46, .inl (c_sheet, 65536, .inl g_sheet)), ((px_rf hh rf) 48, .inl (c_decimals, 200, .inl g_decimals))] ++ px_np hh qq cN nv21) := hD
              refine lv_aload_n hx hb px_d108_142 rfl (lv_at hl 1 rfl) ?_
              refine va_get (D := (dC, dI)) (ci := 8) (v := .ref (hh 192)) (C := "MatroidDeskModel") (T := px_T8) (N := 53) hx hb htw px_in8 hown hK hP 0 rfl rfl 0 (by decide) (htw _ px_w443) (fun _ h9 => h9) rfl px_d108_143 ?_
              refine lv_aload_n hx hb px_d108_146 rfl (lv_at hl 1 rfl) ?_
              refine va_get (D := (dC, dI)) (ci := 8) (v := .ref (hh 197)) (C := "MatroidDeskModel") (T := px_T8) (N := 53) hx hb htw px_in8 hown hK hP 0 rfl rfl 5 (by decide) (htw _ px_w451) (fun _ h9 => h9) rfl px_d108_147 ?_
              refine lv_aload_n hx hb px_d108_150 rfl (lv_at hl 1 rfl) ?_
              refine va_get (D := (dC, dI)) (ci := 8) (v := .ref (hh 199)) (C := "MatroidDeskModel") (T := px_T8) (N := 53) hx hb htw px_in8 hown hK hP 0 rfl rfl 7 (by decide) (htw _ px_w459) (fun _ h9 => h9) rfl px_d108_151 ?_
              refine lv_aload_n hx hb px_d108_154 rfl (lv_at hl 1 rfl) ?_
              refine va_get (D := (dC, dI)) (ci := 8) (v := .ref (hh 193)) (C := "MatroidDeskModel") (T := px_T8) (N := 53) hx hb htw px_in8 hown hK hP 0 rfl rfl 1 (by decide) (htw _ px_w419) (fun _ h9 => h9) rfl px_d108_155 ?_
              obtain ⟨hk158, hw⟩ := hw
              have hPc : va_P (dC, dI) vwCl [(hh 192, .inr (9, [.ref (qq 192), .int ((nv21 192).1), .int ((nv21 192).2.1)])), (qq 192, .inl (cN, 160, .inl ((nv21 192).2.2))), (hh 197, .inr (9, [.ref (qq 197), .int ((nv21 197).1), .int ((nv21 197).2.1)])), (qq 197, .inl (cN, 160, .inl ((nv21 197).2.2))), (hh 199, .inr (9, [.ref (qq 199), .int ((nv21 199).1), .int ((nv21 199).2.1)])), (qq 199, .inl (cN, 160, .inl ((nv21 199).2.2))), (hh 193, .inr (9, [.ref (qq 193), .int ((nv21 193).1), .int ((nv21 193).2.1)])), (qq 193, .inl (cN, 160, .inl ((nv21 193).2.2)))] H := px_outP hP [192, 197, 199, 193] hk158
              have hDc : va_D A [(hh 192, .inr (9, [.ref (qq 192), .int ((nv21 192).1), .int ((nv21 192).2.1)])), (qq 192, .inl (cN, 160, .inl ((nv21 192).2.2))), (hh 197, .inr (9, [.ref (qq 197), .int ((nv21 197).1), .int ((nv21 197).2.1)])), (qq 197, .inl (cN, 160, .inl ((nv21 197).2.2))), (hh 199, .inr (9, [.ref (qq 199), .int ((nv21 199).1), .int ((nv21 199).2.1)])), (qq 199, .inl (cN, 160, .inl ((nv21 199).2.2))), (hh 193, .inr (9, [.ref (qq 193), .int ((nv21 193).1), .int ((nv21 193).2.1)])), (qq 193, .inl (cN, 160, .inl ((nv21 193).2.2)))] := px_outD hD [192, 197, 199, 193] hk158
              have hFc : ∀ q, va_A [(hh 192, .inr (9, [.ref (qq 192), .int ((nv21 192).1), .int ((nv21 192).2.1)])), (qq 192, .inl (cN, 160, .inl ((nv21 192).2.2))), (hh 197, .inr (9, [.ref (qq 197), .int ((nv21 197).1), .int ((nv21 197).2.1)])), (qq 197, .inl (cN, 160, .inl ((nv21 197).2.2))), (hh 199, .inr (9, [.ref (qq 199), .int ((nv21 199).1), .int ((nv21 199).2.1)])), (qq 199, .inl (cN, 160, .inl ((nv21 199).2.2))), (hh 193, .inr (9, [.ref (qq 193), .int ((nv21 193).1), .int ((nv21 193).2.1)])), (qq 193, .inl (cN, 160, .inl ((nv21 193).2.2)))] H.size q → A q := px_outF hD hS hA [192, 197, 199, 193] hk158
              have hKc := hK.sub (tys' := [(cN, .int), (cN, .int), (cN, .int), (cN, .int)]) [7, 7, 7, 7] rfl
              refine va_callv (va_runV (As := [.ref (hh 197), .ref (hh 199), .ref (hh 193)]) (rest := []) ⟨hx, hb, hml, hown, htw⟩ (nqu_met l dC dI H.size (hh 192) (qq 192) (hh 197) (qq 197) (hh 199) (qq 199) (hh 193) (qq 193) cN cN cN cN ((nv21 192).1) ((nv21 192).2.1) ((nv21 192).2.2) ((nv21 197).1) ((nv21 197).2.1) ((nv21 197).2.2) ((nv21 199).1) ((nv21 199).2.1) ((nv21 199).2.2) ((nv21 193).1) ((nv21 193).2.1) ((nv21 193).2.2) _ hw) (cwV 3 htw (px_gv px_w420 px_w306 px_w307 px_w149 px_g19) rfl rfl rfl (by decide +kernel) ⟨Nat.le_of_ble_eq_true rfl, Nat.le_of_ble_eq_true rfl⟩) ⟨fun a U g mk q => by obtain ⟨q0, q1, qP, qK, qD, qN⟩ := q; exact ⟨q0, q1, qP, va_K.moved (u := U) (U := U.calling g mk a) (Vm.Alike.refl U.vm) qK, qD, qN.same rfl⟩, va_recv hK hPc (ci := 9) (q0 := 0) rfl rfl, fun U hU hW => ⟨rfl, by rw [hU], by rw [hU]; exact hPc, va_K.moved hW.alike hKc, hDc.weaken (fun _ _ _ _ => trivial), hN.warm hW⟩⟩ rfl rfl hl.1 rfl (lv_room (Nat.le_of_ble_eq_true rfl)) px_d108_158 ⟨(Nat.le_of_ble_eq_true rfl), (Nat.le_of_ble_eq_true rfl)⟩) hS (fun q _ h => hFc q h) hFc (fun u t H1 locs ht hvm hw hB hz1 hk1 hS => ?_)
              obtain ⟨v22, v23, v24, v25, v26, v27, v28, v29, v30, v31, v32, v33⟩ := u
              obtain ⟨hP1, hK1, hD1⟩ := hB
              rw [ht] at hP1
              obtain ⟨nv35, env35⟩ : ∃ z : Nat → px_NV, z = px_fold nv21 [(192, ⟨v22, v23, v24⟩), (197, ⟨v25, v26, v27⟩), (199, ⟨v28, v29, v30⟩), (193, ⟨v31, v32, v33⟩)] := ⟨_, rfl⟩
              have hw := hw nv35 env35
              obtain ⟨hP, hD⟩ := px_in hP hD [192, 197, 199, 193] hk158 [(192, ⟨v22, v23, v24⟩), (197, ⟨v25, v26, v27⟩), (199, ⟨v28, v29, v30⟩), (193, ⟨v31, v32, v33⟩)] rfl hk1 hP1 env35
              generalize H1 = H at hP hS ⊢
              have hP : va_P (dC, dI) vwCl ([(h0, .inr (8, px_mf (px_rf hh rf) v11)), ((px_rf hh rf) 19, .inl (c_elements, 26, .inl g_elements)), ((px_rf hh rf) 20, .inl (c_fields, 26, .inl g_fields)), ((px_rf hh rf) 21, .inl (c_ranks, 26, .inl g_ranks)), ((px_rf hh rf) 22, .inl (c_kept, 89856, .inl v8)), ((px_rf hh rf) 23, .inl (c_keptSmall, 3744, .inl g_keptSmall)), ((px_rf hh rf) 46, .inl (c_sheet, 65536, .inl g_sheet)), ((px_rf hh rf) 48, .inl (c_decimals, 200, .inl g_decimals))] ++ px_np hh qq cN nv35) H := hP
              have hD : va_D A ([(h0, .inr (8, px_mf (px_rf hh rf) v11)), ((px_rf hh rf) 19, .inl (c_elements, 26, .inl g_elements)), ((px_rf hh rf) 20, .inl (c_fields, 26, .inl g_fields)), ((px_rf hh rf) 21, .inl (c_ranks, 26, .inl g_ranks)), ((px_rf hh rf) 22, .inl (c_kept, 89856, .inl v8)), ((px_rf hh rf) 23, .inl (c_keptSmall, 3744, .inl g_keptSmall)), ((px_rf hh rf) 46, .inl (c_sheet, 65536, .inl g_sheet)), ((px_rf hh rf) 48, .inl (c_decimals, 200, .inl g_decimals))] ++ px_np hh qq cN nv35) := hD
              refine lv_aload_n hx hb px_d108_161 rfl (lv_at hl 1 rfl) ?_
              refine lv_aload_n hx hb px_d108_162 rfl (lv_at hl 1 rfl) ?_
              refine va_get (D := (dC, dI)) (ci := 8) (v := .ref (hh 192)) (C := "MatroidDeskModel") (T := px_T8) (N := 53) hx hb htw px_in8 hown hK hP 0 rfl rfl 0 (by decide) (htw _ px_w443) (fun _ h9 => h9) rfl px_d108_163 ?_
              have hPc := hP.part (cx := [(h0, .inr (8, px_mf (px_rf hh rf) v11)), ((px_rf hh rf) 46, .inl (c_sheet, 65536, .inl g_sheet)), ((px_rf hh rf) 48, .inl (c_decimals, 200, .inl g_decimals))]) [0, 6, 7] rfl
              have hDc := hD.part (cx := [(h0, .inr (8, px_mf (px_rf hh rf) v11)), ((px_rf hh rf) 46, .inl (c_sheet, 65536, .inl g_sheet)), ((px_rf hh rf) 48, .inl (c_decimals, 200, .inl g_decimals))]) [0, 6, 7] (by decide) rfl
              have hFc := va_freeP (cx := [(h0, .inr (8, px_mf (px_rf hh rf) v11)), ((px_rf hh rf) 46, .inl (c_sheet, 65536, .inl g_sheet)), ((px_rf hh rf) 48, .inl (c_decimals, 200, .inl g_decimals))]) hD hS hA [0, 6, 7] rfl
              have hKc := hK.sub (tys' := [(c_sheet, .byte), (c_decimals, .byte), (cN, .int)]) [5, 6, 7] rfl
              refine va_callv (va_runV (As := [.ref (hh 192)]) (rest := []) ⟨hx, hb, hml, hown, htw⟩ (w107_met l dC dI H.size h0 rf hh qq cN 192 c_sheet c_decimals v11 g_sheet g_decimals nv35 _ hw) (cwV 1 htw (px_gv px_w715 px_w709 px_w710 px_w94 px_g107) rfl rfl rfl (by decide +kernel) ⟨Nat.le_of_ble_eq_true rfl, Nat.le_of_ble_eq_true rfl⟩) ⟨fun a U g mk q => by obtain ⟨q0, q1, qP, qK, qD, qN⟩ := q; exact ⟨q0, q1, qP, va_K.moved (u := U) (U := U.calling g mk a) (Vm.Alike.refl U.vm) qK, qD, qN.same rfl⟩, va_recv hK hP (ci := 8) (q0 := 0) rfl rfl, fun U hU hW => ⟨rfl, by rw [hU], by rw [hU]; exact hPc, va_K.moved hW.alike hKc, hDc.weaken (fun _ _ _ _ => trivial), hN.warm hW⟩⟩ rfl rfl hl.1 rfl (lv_room (Nat.le_of_ble_eq_true rfl)) px_d108_166 ⟨(Nat.le_of_ble_eq_true rfl), (Nat.le_of_ble_eq_true rfl)⟩) hS (fun q _ h => hFc q h) hFc (fun u t H1 locs ht hvm hw hB hz1 hk1 hS => ?_)
              obtain ⟨v36, v37, v38, v39⟩ := u
              obtain ⟨hP1, hK1, hD1⟩ := hB
              rw [ht] at hP1
              obtain ⟨hP, hD⟩ := va_joinP (wr := [((px_rf hh rf) 19, .inl (c_elements, 26, .inl g_elements)), ((px_rf hh rf) 20, .inl (c_fields, 26, .inl g_fields)), ((px_rf hh rf) 21, .inl (c_ranks, 26, .inl g_ranks)), ((px_rf hh rf) 22, .inl (c_kept, 89856, .inl v8)), ((px_rf hh rf) 23, .inl (c_keptSmall, 3744, .inl g_keptSmall))]) (rx := [(h0, .inr (8, px_mf (px_rf hh rf) v36)), ((px_rf hh rf) 46, .inl (c_sheet, 65536, .inl v37)), ((px_rf hh rf) 48, .inl (c_decimals, 200, .inl v38))]) hP hD [0, 6, 7] [1, 2, 3, 4, 5] rfl rfl (by decide) (by decide) hk1 hFc hP1 hD1
              generalize H1 = H at hP hS ⊢
              have hP : va_P (dC, dI) vwCl ([((px_rf hh rf) 19, .inl (c_elements, 26, .inl g_elements)), ((px_rf hh rf) 20, .inl (c_fields, 26, .inl g_fields)), ((px_rf hh rf) 21, .inl (c_ranks, 26, .inl g_ranks)), ((px_rf hh rf) 22, .inl (c_kept, 89856, .inl v8)), ((px_rf hh rf) 23, .inl (c_keptSmall, 3744, .inl g_keptSmall)), (h0, .inr (8, px_mf (px_rf hh rf) v36)), ((px_rf hh rf) 46, .inl (c_sheet, 65536, .inl v37)), ((px_rf hh rf) 48, .inl (c_decimals, 200, .inl v38))] ++ px_np hh qq cN v39) H := hP
              have hD : va_D A ([((px_rf hh rf) 19, .inl (c_elements, 26, .inl g_elements)), ((px_rf hh rf) 20, .inl (c_fields, 26, .inl g_fields)), ((px_rf hh rf) 21, .inl (c_ranks, 26, .inl g_ranks)), ((px_rf hh rf) 22, .inl (c_kept, 89856, .inl v8)), ((px_rf hh rf) 23, .inl (c_keptSmall, 3744, .inl g_keptSmall)), (h0, .inr (8, px_mf (px_rf hh rf) v36)), ((px_rf hh rf) 46, .inl (c_sheet, 65536, .inl v37)), ((px_rf hh rf) 48, .inl (c_decimals, 200, .inl v38))] ++ px_np hh qq cN v39) := hD
              have hP := hP.part (cx := [(h0, .inr (8, px_mf (px_rf hh rf) v36)), ((px_rf hh rf) 19, .inl (c_elements, 26, .inl g_elements)), ((px_rf hh rf) 20, .inl (c_fields, 26, .inl g_fields)), ((px_rf hh rf) 21, .inl (c_ranks, 26, .inl g_ranks)), ((px_rf hh rf) 22, .inl (c_kept, 89856, .inl v8)), ((px_rf hh rf) 23, .inl (c_keptSmall, 3744, .inl g_keptSmall)), ((px_rf hh rf) 46, .inl (c_sheet, 65536, .inl v37)), ((px_rf hh rf) 48, .inl (c_decimals, 200, .inl v38))]) [5, 0, 1, 2, 3, 4, 6, 7] rfl
              have hD := hD.part (cx := [(h0, .inr (8, px_mf (px_rf hh rf) v36)), ((px_rf hh rf) 19, .inl (c_elements, 26, .inl g_elements)), ((px_rf hh rf) 20, .inl (c_fields, 26, .inl g_fields)), ((px_rf hh rf) 21, .inl (c_ranks, 26, .inl g_ranks)), ((px_rf hh rf) 22, .inl (c_kept, 89856, .inl v8)), ((px_rf hh rf) 23, .inl (c_keptSmall, 3744, .inl g_keptSmall)), ((px_rf hh rf) 46, .inl (c_sheet, 65536, .inl v37)), ((px_rf hh rf) 48, .inl (c_decimals, 200, .inl v38))]) [5, 0, 1, 2, 3, 4, 6, 7] (by decide) rfl
              refine lv_aload_n hx hb px_d108_169 rfl (lv_at hl 1 rfl) ?_
              refine va_get (D := (dC, dI)) (ci := 8) (v := .ref (hh 192)) (C := "MatroidDeskModel") (T := px_T8) (N := 53) hx hb htw px_in8 hown hK hP 0 rfl rfl 0 (by decide) (htw _ px_w443) (fun _ h9 => h9) rfl px_d108_170 ?_
              refine lv_aload_n hx hb px_d108_173 rfl (lv_at hl 1 rfl) ?_
              refine va_get (D := (dC, dI)) (ci := 8) (v := .ref (hh 198)) (C := "MatroidDeskModel") (T := px_T8) (N := 53) hx hb htw px_in8 hown hK hP 0 rfl rfl 6 (by decide) (htw _ px_w452) (fun _ h9 => h9) rfl px_d108_174 ?_
              refine lv_aload_n hx hb px_d108_177 rfl (lv_at hl 1 rfl) ?_
              refine va_get (D := (dC, dI)) (ci := 8) (v := .ref (hh 199)) (C := "MatroidDeskModel") (T := px_T8) (N := 53) hx hb htw px_in8 hown hK hP 0 rfl rfl 7 (by decide) (htw _ px_w459) (fun _ h9 => h9) rfl px_d108_178 ?_
              refine lv_aload_n hx hb px_d108_181 rfl (lv_at hl 1 rfl) ?_
              refine va_get (D := (dC, dI)) (ci := 8) (v := .ref (hh 193)) (C := "MatroidDeskModel") (T := px_T8) (N := 53) hx hb htw px_in8 hown hK hP 0 rfl rfl 1 (by decide) (htw _ px_w419) (fun _ h9 => h9) rfl px_d108_182 ?_
              obtain ⟨hk185, hw⟩ := hw
              have hPc : va_P (dC, dI) vwCl [(hh 192, .inr (9, [.ref (qq 192), .int ((v39 192).1), .int ((v39 192).2.1)])), (qq 192, .inl (cN, 160, .inl ((v39 192).2.2))), (hh 198, .inr (9, [.ref (qq 198), .int ((v39 198).1), .int ((v39 198).2.1)])), (qq 198, .inl (cN, 160, .inl ((v39 198).2.2))), (hh 199, .inr (9, [.ref (qq 199), .int ((v39 199).1), .int ((v39 199).2.1)])), (qq 199, .inl (cN, 160, .inl ((v39 199).2.2))), (hh 193, .inr (9, [.ref (qq 193), .int ((v39 193).1), .int ((v39 193).2.1)])), (qq 193, .inl (cN, 160, .inl ((v39 193).2.2)))] H := px_outP hP [192, 198, 199, 193] hk185
              have hDc : va_D A [(hh 192, .inr (9, [.ref (qq 192), .int ((v39 192).1), .int ((v39 192).2.1)])), (qq 192, .inl (cN, 160, .inl ((v39 192).2.2))), (hh 198, .inr (9, [.ref (qq 198), .int ((v39 198).1), .int ((v39 198).2.1)])), (qq 198, .inl (cN, 160, .inl ((v39 198).2.2))), (hh 199, .inr (9, [.ref (qq 199), .int ((v39 199).1), .int ((v39 199).2.1)])), (qq 199, .inl (cN, 160, .inl ((v39 199).2.2))), (hh 193, .inr (9, [.ref (qq 193), .int ((v39 193).1), .int ((v39 193).2.1)])), (qq 193, .inl (cN, 160, .inl ((v39 193).2.2)))] := px_outD hD [192, 198, 199, 193] hk185
              have hFc : ∀ q, va_A [(hh 192, .inr (9, [.ref (qq 192), .int ((v39 192).1), .int ((v39 192).2.1)])), (qq 192, .inl (cN, 160, .inl ((v39 192).2.2))), (hh 198, .inr (9, [.ref (qq 198), .int ((v39 198).1), .int ((v39 198).2.1)])), (qq 198, .inl (cN, 160, .inl ((v39 198).2.2))), (hh 199, .inr (9, [.ref (qq 199), .int ((v39 199).1), .int ((v39 199).2.1)])), (qq 199, .inl (cN, 160, .inl ((v39 199).2.2))), (hh 193, .inr (9, [.ref (qq 193), .int ((v39 193).1), .int ((v39 193).2.1)])), (qq 193, .inl (cN, 160, .inl ((v39 193).2.2)))] H.size q → A q := px_outF hD hS hA [192, 198, 199, 193] hk185
              have hKc := hK.sub (tys' := [(cN, .int), (cN, .int), (cN, .int), (cN, .int)]) [7, 7, 7, 7] rfl
              refine va_callv (va_runV (As := [.ref (hh 198), .ref (hh 199), .ref (hh 193)]) (rest := []) ⟨hx, hb, hml, hown, htw⟩ (nqu_met l dC dI H.size (hh 192) (qq 192) (hh 198) (qq 198) (hh 199) (qq 199) (hh 193) (qq 193) cN cN cN cN ((v39 192).1) ((v39 192).2.1) ((v39 192).2.2) ((v39 198).1) ((v39 198).2.1) ((v39 198).2.2) ((v39 199).1) ((v39 199).2.1) ((v39 199).2.2) ((v39 193).1) ((v39 193).2.1) ((v39 193).2.2) _ hw) (cwV 3 htw (px_gv px_w420 px_w306 px_w307 px_w149 px_g19) rfl rfl rfl (by decide +kernel) ⟨Nat.le_of_ble_eq_true rfl, Nat.le_of_ble_eq_true rfl⟩) ⟨fun a U g mk q => by obtain ⟨q0, q1, qP, qK, qD, qN⟩ := q; exact ⟨q0, q1, qP, va_K.moved (u := U) (U := U.calling g mk a) (Vm.Alike.refl U.vm) qK, qD, qN.same rfl⟩, va_recv hK hPc (ci := 9) (q0 := 0) rfl rfl, fun U hU hW => ⟨rfl, by rw [hU], by rw [hU]; exact hPc, va_K.moved hW.alike hKc, hDc.weaken (fun _ _ _ _ => trivial), hN.warm hW⟩⟩ rfl rfl hl.1 rfl (lv_room (Nat.le_of_ble_eq_true rfl)) px_d108_185 ⟨(Nat.le_of_ble_eq_true rfl), (Nat.le_of_ble_eq_true rfl)⟩) hS (fun q _ h => hFc q h) hFc (fun u t H1 locs ht hvm hw hB hz1 hk1 hS => ?_)
              obtain ⟨v41, v42, v43, v44, v45, v46, v47, v48, v49, v50, v51, v52⟩ := u
              obtain ⟨hP1, hK1, hD1⟩ := hB
              rw [ht] at hP1
              obtain ⟨nv54, env54⟩ : ∃ z : Nat → px_NV, z = px_fold v39 [(192, ⟨v41, v42, v43⟩), (198, ⟨v44, v45, v46⟩), (199, ⟨v47, v48, v49⟩), (193, ⟨v50, v51, v52⟩)] := ⟨_, rfl⟩
              have hw := hw nv54 env54
              obtain ⟨hP, hD⟩ := px_in hP hD [192, 198, 199, 193] hk185 [(192, ⟨v41, v42, v43⟩), (198, ⟨v44, v45, v46⟩), (199, ⟨v47, v48, v49⟩), (193, ⟨v50, v51, v52⟩)] rfl hk1 hP1 env54
              generalize H1 = H at hP hS ⊢
              have hP : va_P (dC, dI) vwCl ([(h0, .inr (8, px_mf (px_rf hh rf) v36)), ((px_rf hh rf) 19, .inl (c_elements, 26, .inl g_elements)), ((px_rf hh rf) 20, .inl (c_fields, 26, .inl g_fields)), ((px_rf hh rf) 21, .inl (c_ranks, 26, .inl g_ranks)), ((px_rf hh rf) 22, .inl (c_kept, 89856, .inl v8)), ((px_rf hh rf) 23, .inl (c_keptSmall, 3744, .inl g_keptSmall)), ((px_rf hh rf) 46, .inl (c_sheet, 65536, .inl v37)), ((px_rf hh rf) 48, .inl (c_decimals, 200, .inl v38))] ++ px_np hh qq cN nv54) H := hP
              have hD : va_D A ([(h0, .inr (8, px_mf (px_rf hh rf) v36)), ((px_rf hh rf) 19, .inl (c_elements, 26, .inl g_elements)), ((px_rf hh rf) 20, .inl (c_fields, 26, .inl g_fields)), ((px_rf hh rf) 21, .inl (c_ranks, 26, .inl g_ranks)), ((px_rf hh rf) 22, .inl (c_kept, 89856, .inl v8)), ((px_rf hh rf) 23, .inl (c_keptSmall, 3744, .inl g_keptSmall)), ((px_rf hh rf) 46, .inl (c_sheet, 65536, .inl v37)), ((px_rf hh rf) 48, .inl (c_decimals, 200, .inl v38))] ++ px_np hh qq cN nv54) := hD
              refine lv_aload_n hx hb px_d108_188 rfl (lv_at hl 1 rfl) ?_
              refine va_get (D := (dC, dI)) (ci := 8) (v := .ref (hh 192)) (C := "MatroidDeskModel") (T := px_T8) (N := 53) hx hb htw px_in8 hown hK hP 0 rfl rfl 0 (by decide) (htw _ px_w443) (fun _ h9 => h9) rfl px_d108_189 ?_
              obtain ⟨hk192, hw⟩ := hw
              have hPc : va_P (dC, dI) vwCl [(hh 192, .inr (9, [.ref (qq 192), .int ((nv54 192).1), .int ((nv54 192).2.1)])), (qq 192, .inl (cN, 160, .inl ((nv54 192).2.2)))] H := px_outP hP [192] hk192
              have hDc : va_D A [(hh 192, .inr (9, [.ref (qq 192), .int ((nv54 192).1), .int ((nv54 192).2.1)])), (qq 192, .inl (cN, 160, .inl ((nv54 192).2.2)))] := px_outD hD [192] hk192
              have hFc : ∀ q, va_A [(hh 192, .inr (9, [.ref (qq 192), .int ((nv54 192).1), .int ((nv54 192).2.1)])), (qq 192, .inl (cN, 160, .inl ((nv54 192).2.2)))] H.size q → A q := px_outF hD hS hA [192] hk192
              have hKc := hK.sub (tys' := [(cN, .int)]) [7] rfl
              refine va_calli (va_runV (As := []) (rest := []) ⟨hx, hb, hml, hown, htw⟩ (no_met l dC dI H.size (hh 192) (qq 192) cN ((nv54 192).1) ((nv54 192).2.1) ((nv54 192).2.2) _ hw) (cwV 0 htw (px_gv px_w462 px_w282 px_w283 px_w149 px_g12) rfl rfl rfl (by decide +kernel) ⟨Nat.le_of_ble_eq_true rfl, Nat.le_of_ble_eq_true rfl⟩) ⟨fun a U g mk q => by obtain ⟨q0, q1, qP, qK, qD, qN⟩ := q; exact ⟨q0, q1, qP, va_K.moved (u := U) (U := U.calling g mk a) (Vm.Alike.refl U.vm) qK, qD, qN.same rfl⟩, va_recv hK hPc (ci := 9) (q0 := 0) rfl rfl, fun U hU hW => ⟨rfl, by rw [hU], by rw [hU]; exact hPc, va_K.moved hW.alike hKc, hDc.weaken (fun _ _ _ _ => trivial), hN.warm hW⟩⟩ rfl rfl hl.1 rfl (lv_room (Nat.le_of_ble_eq_true rfl)) px_d108_192 ⟨(Nat.le_of_ble_eq_true rfl), (Nat.le_of_ble_eq_true rfl)⟩) hS (fun q _ h => hFc q h) hFc (fun r192 u t H1 locs ht hvm hw hB hz1 hk1 hS => ?_)
              obtain ⟨v55, v56, v57⟩ := u
              obtain ⟨hP1, hK1, hD1⟩ := hB
              rw [ht] at hP1
              obtain ⟨nv59, env59⟩ : ∃ z : Nat → px_NV, z = px_fold nv54 [(192, ⟨v55, v56, v57⟩)] := ⟨_, rfl⟩
              have hw := hw nv59 env59
              obtain ⟨hP, hD⟩ := px_in hP hD [192] hk192 [(192, ⟨v55, v56, v57⟩)] rfl hk1 hP1 env59
              generalize H1 = H at hP hS ⊢
              have hP : va_P (dC, dI) vwCl ([(h0, .inr (8, px_mf (px_rf hh rf) v36)), ((px_rf hh rf) 19, .inl (c_elements, 26, .inl g_elements)), ((px_rf hh rf) 20, .inl (c_fields, 26, .inl g_fields)), ((px_rf hh rf) 21, .inl (c_ranks, 26, .inl g_ranks)), ((px_rf hh rf) 22, .inl (c_kept, 89856, .inl v8)), ((px_rf hh rf) 23, .inl (c_keptSmall, 3744, .inl g_keptSmall)), ((px_rf hh rf) 46, .inl (c_sheet, 65536, .inl v37)), ((px_rf hh rf) 48, .inl (c_decimals, 200, .inl v38))] ++ px_np hh qq cN nv59) H := hP
              have hD : va_D A ([(h0, .inr (8, px_mf (px_rf hh rf) v36)), ((px_rf hh rf) 19, .inl (c_elements, 26, .inl g_elements)), ((px_rf hh rf) 20, .inl (c_fields, 26, .inl g_fields)), ((px_rf hh rf) 21, .inl (c_ranks, 26, .inl g_ranks)), ((px_rf hh rf) 22, .inl (c_kept, 89856, .inl v8)), ((px_rf hh rf) 23, .inl (c_keptSmall, 3744, .inl g_keptSmall)), ((px_rf hh rf) 46, .inl (c_sheet, 65536, .inl v37)), ((px_rf hh rf) 48, .inl (c_decimals, 200, .inl v38))] ++ px_np hh qq cN nv59) := hD
              refine lv_if_ne (tgt := 212) hx hb px_d108_195 (by decide) (fun c195 => ?_) (fun c195 => ?_)
              · have hw := hw.1 c195
                exact S212 x1 x2 x3 x4 z2 v36 g_elements g_fields g_ranks v8 g_keptSmall v37 v38 nv59 H locs ls hP hD hS (lv_sub hl [1, 2, 3, 4, 5, 0] rfl) hw
              · have hw := hw.2 c195
                refine lv_aload_n hx hb px_d108_198 rfl (lv_at hl 1 rfl) ?_
                refine lv_bipush (v := 47) hx hb px_d108_199 (by decide) ?_
                have hPc := hP.sub (ws' := [(h0, .inr (8, px_mf (px_rf hh rf) v36)), ((px_rf hh rf) 46, .inl (c_sheet, 65536, .inl v37))]) [0, 6] rfl
                have hDc := hD.sub (ws' := [(h0, .inr (8, px_mf (px_rf hh rf) v36)), ((px_rf hh rf) 46, .inl (c_sheet, 65536, .inl v37))]) [0, 6] (by decide) rfl
                have hFc := va_free (wc := [(h0, .inr (8, px_mf (px_rf hh rf) v36)), ((px_rf hh rf) 46, .inl (c_sheet, 65536, .inl v37))]) hD hS hA [0, 6] rfl
                have hKc := hK.sub (tys' := [(c_sheet, .byte)]) [5] rfl
                refine va_callv (va_runV (As := [.int 47]) (rest := []) ⟨hx, hb, hml, hown, htw⟩ (mpu_met l dC dI H.size h0 (px_rf hh rf) c_sheet 47 v36 v37 _ hw) (cwV 1 htw (px_gv px_w700 px_w375 px_w376 px_w94 px_g37) rfl rfl rfl (by decide +kernel) ⟨Nat.le_of_ble_eq_true rfl, Nat.le_of_ble_eq_true rfl⟩) ⟨fun a U g mk q => by obtain ⟨q0, q1, qP, qK, qD, qN⟩ := q; exact ⟨q0, q1, qP, va_K.moved (u := U) (U := U.calling g mk a) (Vm.Alike.refl U.vm) qK, qD, qN.same rfl⟩, va_recv hK hP (ci := 8) (q0 := 0) rfl rfl, fun U hU hW => ⟨rfl, by rw [hU], by rw [hU]; exact hPc, va_K.moved hW.alike hKc, hDc.weaken (fun _ _ _ _ => trivial), hN.warm hW⟩⟩ rfl rfl hl.1 rfl (lv_room (Nat.le_of_ble_eq_true rfl)) px_d108_201 ⟨(Nat.le_of_ble_eq_true rfl), (Nat.le_of_ble_eq_true rfl)⟩) hS (fun q _ h => hFc q h) hFc (fun u t H1 locs ht hvm hw hB hz1 hk1 hS => ?_)
                obtain ⟨v60, v61⟩ := u
                obtain ⟨hP1, hK1, hD1⟩ := hB
                rw [ht] at hP1
                obtain ⟨hP, hD⟩ := va_joinQ (wr := [((px_rf hh rf) 19, .inl (c_elements, 26, .inl g_elements)), ((px_rf hh rf) 20, .inl (c_fields, 26, .inl g_fields)), ((px_rf hh rf) 21, .inl (c_ranks, 26, .inl g_ranks)), ((px_rf hh rf) 22, .inl (c_kept, 89856, .inl v8)), ((px_rf hh rf) 23, .inl (c_keptSmall, 3744, .inl g_keptSmall)), ((px_rf hh rf) 48, .inl (c_decimals, 200, .inl v38))]) (w1 := [(h0, .inr (8, px_mf (px_rf hh rf) v60)), ((px_rf hh rf) 46, .inl (c_sheet, 65536, .inl v61))]) hP hD [0, 6] [1, 2, 3, 4, 5, 7] rfl rfl (by decide) (by decide) hk1 hFc hP1 hD1
                generalize H1 = H at hP hS ⊢
                have hP : va_P (dC, dI) vwCl ([((px_rf hh rf) 19, .inl (c_elements, 26, .inl g_elements)), ((px_rf hh rf) 20, .inl (c_fields, 26, .inl g_fields)), ((px_rf hh rf) 21, .inl (c_ranks, 26, .inl g_ranks)), ((px_rf hh rf) 22, .inl (c_kept, 89856, .inl v8)), ((px_rf hh rf) 23, .inl (c_keptSmall, 3744, .inl g_keptSmall)), ((px_rf hh rf) 48, .inl (c_decimals, 200, .inl v38)), (h0, .inr (8, px_mf (px_rf hh rf) v60)), ((px_rf hh rf) 46, .inl (c_sheet, 65536, .inl v61))] ++ px_np hh qq cN nv59) H := hP
                have hD : va_D A ([((px_rf hh rf) 19, .inl (c_elements, 26, .inl g_elements)), ((px_rf hh rf) 20, .inl (c_fields, 26, .inl g_fields)), ((px_rf hh rf) 21, .inl (c_ranks, 26, .inl g_ranks)), ((px_rf hh rf) 22, .inl (c_kept, 89856, .inl v8)), ((px_rf hh rf) 23, .inl (c_keptSmall, 3744, .inl g_keptSmall)), ((px_rf hh rf) 48, .inl (c_decimals, 200, .inl v38)), (h0, .inr (8, px_mf (px_rf hh rf) v60)), ((px_rf hh rf) 46, .inl (c_sheet, 65536, .inl v61))] ++ px_np hh qq cN nv59) := hD
                have hP := hP.part (cx := [(h0, .inr (8, px_mf (px_rf hh rf) v60)), ((px_rf hh rf) 19, .inl (c_elements, 26, .inl g_elements)), ((px_rf hh rf) 20, .inl (c_fields, 26, .inl g_fields)), ((px_rf hh rf) 21, .inl (c_ranks, 26, .inl g_ranks)), ((px_rf hh rf) 22, .inl (c_kept, 89856, .inl v8)), ((px_rf hh rf) 23, .inl (c_keptSmall, 3744, .inl g_keptSmall)), ((px_rf hh rf) 46, .inl (c_sheet, 65536, .inl v61)), ((px_rf hh rf) 48, .inl (c_decimals, 200, .inl v38))]) [6, 0, 1, 2, 3, 4, 7, 5] rfl
                have hD := hD.part (cx := [(h0, .inr (8, px_mf (px_rf hh rf) v60)), ((px_rf hh rf) 19, .inl (c_elements, 26, .inl g_elements)), ((px_rf hh rf) 20, .inl (c_fields, 26, .inl g_fields)), ((px_rf hh rf) 21, .inl (c_ranks, 26, .inl g_ranks)), ((px_rf hh rf) 22, .inl (c_kept, 89856, .inl v8)), ((px_rf hh rf) 23, .inl (c_keptSmall, 3744, .inl g_keptSmall)), ((px_rf hh rf) 46, .inl (c_sheet, 65536, .inl v61)), ((px_rf hh rf) 48, .inl (c_decimals, 200, .inl v38))]) [6, 0, 1, 2, 3, 4, 7, 5] (by decide) rfl
                refine lv_aload_n hx hb px_d108_204 rfl (lv_at hl 1 rfl) ?_
                refine lv_aload_n hx hb px_d108_205 rfl (lv_at hl 1 rfl) ?_
                refine va_get (D := (dC, dI)) (ci := 8) (v := .ref (hh 192)) (C := "MatroidDeskModel") (T := px_T8) (N := 53) hx hb htw px_in8 hown hK hP 0 rfl rfl 0 (by decide) (htw _ px_w443) (fun _ h9 => h9) rfl px_d108_206 ?_
                have hPc := hP.part (cx := [(h0, .inr (8, px_mf (px_rf hh rf) v60)), ((px_rf hh rf) 46, .inl (c_sheet, 65536, .inl v61)), ((px_rf hh rf) 48, .inl (c_decimals, 200, .inl v38))]) [0, 6, 7] rfl
                have hDc := hD.part (cx := [(h0, .inr (8, px_mf (px_rf hh rf) v60)), ((px_rf hh rf) 46, .inl (c_sheet, 65536, .inl v61)), ((px_rf hh rf) 48, .inl (c_decimals, 200, .inl v38))]) [0, 6, 7] (by decide) rfl
                have hFc := va_freeP (cx := [(h0, .inr (8, px_mf (px_rf hh rf) v60)), ((px_rf hh rf) 46, .inl (c_sheet, 65536, .inl v61)), ((px_rf hh rf) 48, .inl (c_decimals, 200, .inl v38))]) hD hS hA [0, 6, 7] rfl
                have hKc := hK.sub (tys' := [(c_sheet, .byte), (c_decimals, .byte), (cN, .int)]) [5, 6, 7] rfl
                refine va_callv (va_runV (As := [.ref (hh 192)]) (rest := []) ⟨hx, hb, hml, hown, htw⟩ (w107_met l dC dI H.size h0 rf hh qq cN 192 c_sheet c_decimals v60 v61 v38 nv59 _ hw) (cwV 1 htw (px_gv px_w715 px_w709 px_w710 px_w94 px_g107) rfl rfl rfl (by decide +kernel) ⟨Nat.le_of_ble_eq_true rfl, Nat.le_of_ble_eq_true rfl⟩) ⟨fun a U g mk q => by obtain ⟨q0, q1, qP, qK, qD, qN⟩ := q; exact ⟨q0, q1, qP, va_K.moved (u := U) (U := U.calling g mk a) (Vm.Alike.refl U.vm) qK, qD, qN.same rfl⟩, va_recv hK hP (ci := 8) (q0 := 0) rfl rfl, fun U hU hW => ⟨rfl, by rw [hU], by rw [hU]; exact hPc, va_K.moved hW.alike hKc, hDc.weaken (fun _ _ _ _ => trivial), hN.warm hW⟩⟩ rfl rfl hl.1 rfl (lv_room (Nat.le_of_ble_eq_true rfl)) px_d108_209 ⟨(Nat.le_of_ble_eq_true rfl), (Nat.le_of_ble_eq_true rfl)⟩) hS (fun q _ h => hFc q h) hFc (fun u t H1 locs ht hvm hw hB hz1 hk1 hS => ?_)
                obtain ⟨v63, v64, v65, v66⟩ := u
                obtain ⟨hP1, hK1, hD1⟩ := hB
                rw [ht] at hP1
                obtain ⟨hP, hD⟩ := va_joinP (wr := [((px_rf hh rf) 19, .inl (c_elements, 26, .inl g_elements)), ((px_rf hh rf) 20, .inl (c_fields, 26, .inl g_fields)), ((px_rf hh rf) 21, .inl (c_ranks, 26, .inl g_ranks)), ((px_rf hh rf) 22, .inl (c_kept, 89856, .inl v8)), ((px_rf hh rf) 23, .inl (c_keptSmall, 3744, .inl g_keptSmall))]) (rx := [(h0, .inr (8, px_mf (px_rf hh rf) v63)), ((px_rf hh rf) 46, .inl (c_sheet, 65536, .inl v64)), ((px_rf hh rf) 48, .inl (c_decimals, 200, .inl v65))]) hP hD [0, 6, 7] [1, 2, 3, 4, 5] rfl rfl (by decide) (by decide) hk1 hFc hP1 hD1
                generalize H1 = H at hP hS ⊢
                have hP : va_P (dC, dI) vwCl ([((px_rf hh rf) 19, .inl (c_elements, 26, .inl g_elements)), ((px_rf hh rf) 20, .inl (c_fields, 26, .inl g_fields)), ((px_rf hh rf) 21, .inl (c_ranks, 26, .inl g_ranks)), ((px_rf hh rf) 22, .inl (c_kept, 89856, .inl v8)), ((px_rf hh rf) 23, .inl (c_keptSmall, 3744, .inl g_keptSmall)), (h0, .inr (8, px_mf (px_rf hh rf) v63)), ((px_rf hh rf) 46, .inl (c_sheet, 65536, .inl v64)), ((px_rf hh rf) 48, .inl (c_decimals, 200, .inl v65))] ++ px_np hh qq cN v66) H := hP
                have hD : va_D A ([((px_rf hh rf) 19, .inl (c_elements, 26, .inl g_elements)), ((px_rf hh rf) 20, .inl (c_fields, 26, .inl g_fields)), ((px_rf hh rf) 21, .inl (c_ranks, 26, .inl g_ranks)), ((px_rf hh rf) 22, .inl (c_kept, 89856, .inl v8)), ((px_rf hh rf) 23, .inl (c_keptSmall, 3744, .inl g_keptSmall)), (h0, .inr (8, px_mf (px_rf hh rf) v63)), ((px_rf hh rf) 46, .inl (c_sheet, 65536, .inl v64)), ((px_rf hh rf) 48, .inl (c_decimals, 200, .inl v65))] ++ px_np hh qq cN v66) := hD
                have hP := hP.part (cx := [(h0, .inr (8, px_mf (px_rf hh rf) v63)), ((px_rf hh rf) 19, .inl (c_elements, 26, .inl g_elements)), ((px_rf hh rf) 20, .inl (c_fields, 26, .inl g_fields)), ((px_rf hh rf) 21, .inl (c_ranks, 26, .inl g_ranks)), ((px_rf hh rf) 22, .inl (c_kept, 89856, .inl v8)), ((px_rf hh rf) 23, .inl (c_keptSmall, 3744, .inl g_keptSmall)), ((px_rf hh rf) 46, .inl (c_sheet, 65536, .inl v64)), ((px_rf hh rf) 48, .inl (c_decimals, 200, .inl v65))]) [5, 0, 1, 2, 3, 4, 6, 7] rfl
                have hD := hD.part (cx := [(h0, .inr (8, px_mf (px_rf hh rf) v63)), ((px_rf hh rf) 19, .inl (c_elements, 26, .inl g_elements)), ((px_rf hh rf) 20, .inl (c_fields, 26, .inl g_fields)), ((px_rf hh rf) 21, .inl (c_ranks, 26, .inl g_ranks)), ((px_rf hh rf) 22, .inl (c_kept, 89856, .inl v8)), ((px_rf hh rf) 23, .inl (c_keptSmall, 3744, .inl g_keptSmall)), ((px_rf hh rf) 46, .inl (c_sheet, 65536, .inl v64)), ((px_rf hh rf) 48, .inl (c_decimals, 200, .inl v65))]) [5, 0, 1, 2, 3, 4, 6, 7] (by decide) rfl
                exact S212 x1 x2 x3 x4 z2 v63 g_elements g_fields g_ranks v8 g_keptSmall v64 v65 v66 H locs ls hP hD hS (lv_sub hl [1, 2, 3, 4, 5, 0] rfl) hw
            · have hw := hw.2 c65
              refine lv_aload_n hx hb px_d108_68 rfl (lv_at hl 1 rfl) ?_
              refine lv_aload_n hx hb px_d108_69 rfl (lv_at hl 1 rfl) ?_
              refine va_get (D := (dC, dI)) (ci := 8) (v := .ref ((px_rf hh rf) 23)) (C := "MatroidDeskModel") (T := px_T8) (N := 53) hx hb htw px_in8 hown hK hP 0 rfl rfl 23 (by decide) (htw _ px_w507) (fun _ h9 => h9) rfl px_d108_70 ?_
              refine lv_iload hx hb px_d108_73 (lv_at hl 0 rfl) ?_
              obtain ⟨hi75, hw⟩ := hw
              refine va_iald hx hb hK hP 5 4 rfl rfl hi75 px_d108_75 ?_
              refine lv_i2l (v := (g_keptSmall (Int32.toNatClampNeg z2)).toInt64) hx hb px_d108_76 rfl ?_
              have hPc := hP.sub (ws' := [(h0, .inr (8, px_mf (px_rf hh rf) iv)), ((px_rf hh rf) 46, .inl (c_sheet, 65536, .inl g_sheet))]) [0, 6] rfl
              have hDc := hD.sub (ws' := [(h0, .inr (8, px_mf (px_rf hh rf) iv)), ((px_rf hh rf) 46, .inl (c_sheet, 65536, .inl g_sheet))]) [0, 6] (by decide) rfl
              have hFc := va_free (wc := [(h0, .inr (8, px_mf (px_rf hh rf) iv)), ((px_rf hh rf) 46, .inl (c_sheet, 65536, .inl g_sheet))]) hD hS hA [0, 6] rfl
              have hKc := hK.sub (tys' := [(c_sheet, .byte)]) [5] rfl
              refine va_callv (va_runV (As := [.long ((g_keptSmall (Int32.toNatClampNeg z2)).toInt64)]) (rest := []) ⟨hx, hb, hml, hown, htw⟩ (w105_met l dC dI H.size h0 (px_rf hh rf) c_sheet ((g_keptSmall (Int32.toNatClampNeg z2)).toInt64) iv g_sheet _ hw) (cwV 1 htw (px_gv px_w707 px_w698 px_w699 px_w94 px_g105) rfl rfl rfl (by decide +kernel) ⟨Nat.le_of_ble_eq_true rfl, Nat.le_of_ble_eq_true rfl⟩) ⟨fun a U g mk q => by obtain ⟨q0, q1, qP, qK, qD, qN⟩ := q; exact ⟨q0, q1, qP, va_K.moved (u := U) (U := U.calling g mk a) (Vm.Alike.refl U.vm) qK, qD, qN.same rfl⟩, va_recv hK hP (ci := 8) (q0 := 0) rfl rfl, fun U hU hW => ⟨rfl, by rw [hU], by rw [hU]; exact hPc, va_K.moved hW.alike hKc, hDc.weaken (fun _ _ _ _ => trivial), hN.warm hW⟩⟩ rfl rfl hl.1 rfl (lv_room (Nat.le_of_ble_eq_true rfl)) px_d108_77 ⟨(Nat.le_of_ble_eq_true rfl), (Nat.le_of_ble_eq_true rfl)⟩) hS (fun q _ h => hFc q h) hFc (fun u t H1 locs ht hvm hw hB hz1 hk1 hS => ?_)
              obtain ⟨v68, v69⟩ := u
              obtain ⟨hP1, hK1, hD1⟩ := hB
              rw [ht] at hP1
              obtain ⟨hP, hD⟩ := va_joinQ (wr := [((px_rf hh rf) 19, .inl (c_elements, 26, .inl g_elements)), ((px_rf hh rf) 20, .inl (c_fields, 26, .inl g_fields)), ((px_rf hh rf) 21, .inl (c_ranks, 26, .inl g_ranks)), ((px_rf hh rf) 22, .inl (c_kept, 89856, .inl g_kept)), ((px_rf hh rf) 23, .inl (c_keptSmall, 3744, .inl g_keptSmall)), ((px_rf hh rf) 48, .inl (c_decimals, 200, .inl g_decimals))]) (w1 := [(h0, .inr (8, px_mf (px_rf hh rf) v68)), ((px_rf hh rf) 46, .inl (c_sheet, 65536, .inl v69))]) hP hD [0, 6] [1, 2, 3, 4, 5, 7] rfl rfl (by decide) (by decide) hk1 hFc hP1 hD1
              generalize H1 = H at hP hS ⊢
              have hP : va_P (dC, dI) vwCl ([((px_rf hh rf) 19, .inl (c_elements, 26, .inl g_elements)), ((px_rf hh rf) 20, .inl (c_fields, 26, .inl g_fields)), ((px_rf hh rf) 21, .inl (c_ranks, 26, .inl g_ranks)), ((px_rf hh rf) 22, .inl (c_kept, 89856, .inl g_kept)), ((px_rf hh rf) 23, .inl (c_keptSmall, 3744, .inl g_keptSmall)), ((px_rf hh rf) 48, .inl (c_decimals, 200, .inl g_decimals)), (h0, .inr (8, px_mf (px_rf hh rf) v68)), ((px_rf hh rf) 46, .inl (c_sheet, 65536, .inl v69))] ++ px_np hh qq cN nv) H := hP
              have hD : va_D A ([((px_rf hh rf) 19, .inl (c_elements, 26, .inl g_elements)), ((px_rf hh rf) 20, .inl (c_fields, 26, .inl g_fields)), ((px_rf hh rf) 21, .inl (c_ranks, 26, .inl g_ranks)), ((px_rf hh rf) 22, .inl (c_kept, 89856, .inl g_kept)), ((px_rf hh rf) 23, .inl (c_keptSmall, 3744, .inl g_keptSmall)), ((px_rf hh rf) 48, .inl (c_decimals, 200, .inl g_decimals)), (h0, .inr (8, px_mf (px_rf hh rf) v68)), ((px_rf hh rf) 46, .inl (c_sheet, 65536, .inl v69))] ++ px_np hh qq cN nv) := hD
              have hP := hP.part (cx := [(h0, .inr (8, px_mf (px_rf hh rf) v68)), ((px_rf hh rf) 19, .inl (c_elements, 26, .inl g_elements)), ((px_rf hh rf) 20, .inl (c_fields, 26, .inl g_fields)), ((px_rf hh rf) 21, .inl (c_ranks, 26, .inl g_ranks)), ((px_rf hh rf) 22, .inl (c_kept, 89856, .inl g_kept)), ((px_rf hh rf) 23, .inl (c_keptSmall, 3744, .inl g_keptSmall)), ((px_rf hh rf) 46, .inl (c_sheet, 65536, .inl v69)), ((px_rf hh rf) 48, .inl (c_decimals, 200, .inl g_decimals))]) [6, 0, 1, 2, 3, 4, 7, 5] rfl
              have hD := hD.part (cx := [(h0, .inr (8, px_mf (px_rf hh rf) v68)), ((px_rf hh rf) 19, .inl (c_elements, 26, .inl g_elements)), ((px_rf hh rf) 20, .inl (c_fields, 26, .inl g_fields)), ((px_rf hh rf) 21, .inl (c_ranks, 26, .inl g_ranks)), ((px_rf hh rf) 22, .inl (c_kept, 89856, .inl g_kept)), ((px_rf hh rf) 23, .inl (c_keptSmall, 3744, .inl g_keptSmall)), ((px_rf hh rf) 46, .inl (c_sheet, 65536, .inl v69)), ((px_rf hh rf) 48, .inl (c_decimals, 200, .inl g_decimals))]) [6, 0, 1, 2, 3, 4, 7, 5] (by decide) rfl
              refine lv_goto (tgt := 212) hx hb px_d108_80 (by decide) ?_
              exact S212 x1 x2 x3 x4 z2 v68 g_elements g_fields g_ranks g_kept g_keptSmall v69 g_decimals nv H locs ls hP hD hS (lv_sub hl [1, 2, 3, 4, 5, 0] rfl) hw
          intro x1 x2 x3 x4 iv g_elements g_fields g_ranks g_kept g_keptSmall g_sheet g_decimals nv H locs ls hP hD hS hl hw
          unfold w108_L22 at hw
          refine lv_iload hx hb px_d108_22 (lv_at hl 4 rfl) ?_
          refine lv_aload_n hx hb px_d108_24 rfl (lv_at hl 0 rfl) ?_
          refine va_get (D := (dC, dI)) (ci := 8) (v := .ref ((px_rf hh rf) 19)) (C := "MatroidDeskModel") (T := px_T8) (N := 53) hx hb htw px_in8 hown hK hP 0 rfl rfl 19 (by decide) (htw _ px_w502) (fun _ h9 => h9) rfl px_d108_25 ?_
          refine lv_iload_n hx hb px_d108_28 rfl (lv_at hl 1 rfl) ?_
          obtain ⟨hi29, hw⟩ := hw
          refine va_iald hx hb hK hP 1 0 rfl rfl hi29 px_d108_29 ?_
          refine lv_icmp_ge (tgt := 218) hx hb px_d108_30 (by decide) (fun c30 => ?_) (fun c30 => ?_)
          · have hw := hw.1 c30
            refine lv_aload_n hx hb px_d108_218 rfl (lv_at hl 0 rfl) ?_
            refine lv_bipush (v := 10) hx hb px_d108_219 (by decide) ?_
            have hPc := hP.sub (ws' := [(h0, .inr (8, px_mf (px_rf hh rf) iv)), ((px_rf hh rf) 46, .inl (c_sheet, 65536, .inl g_sheet))]) [0, 6] rfl
            have hDc := hD.sub (ws' := [(h0, .inr (8, px_mf (px_rf hh rf) iv)), ((px_rf hh rf) 46, .inl (c_sheet, 65536, .inl g_sheet))]) [0, 6] (by decide) rfl
            have hFc := va_free (wc := [(h0, .inr (8, px_mf (px_rf hh rf) iv)), ((px_rf hh rf) 46, .inl (c_sheet, 65536, .inl g_sheet))]) hD hS hA [0, 6] rfl
            have hKc := hK.sub (tys' := [(c_sheet, .byte)]) [5] rfl
            refine va_callv (va_runV (As := [.int 10]) (rest := []) ⟨hx, hb, hml, hown, htw⟩ (mpu_met l dC dI H.size h0 (px_rf hh rf) c_sheet 10 iv g_sheet _ hw) (cwV 1 htw (px_gv px_w700 px_w375 px_w376 px_w94 px_g37) rfl rfl rfl (by decide +kernel) ⟨Nat.le_of_ble_eq_true rfl, Nat.le_of_ble_eq_true rfl⟩) ⟨fun a U g mk q => by obtain ⟨q0, q1, qP, qK, qD, qN⟩ := q; exact ⟨q0, q1, qP, va_K.moved (u := U) (U := U.calling g mk a) (Vm.Alike.refl U.vm) qK, qD, qN.same rfl⟩, va_recv hK hP (ci := 8) (q0 := 0) rfl rfl, fun U hU hW => ⟨rfl, by rw [hU], by rw [hU]; exact hPc, va_K.moved hW.alike hKc, hDc.weaken (fun _ _ _ _ => trivial), hN.warm hW⟩⟩ rfl rfl hl.1 rfl (lv_room (Nat.le_of_ble_eq_true rfl)) px_d108_221 ⟨(Nat.le_of_ble_eq_true rfl), (Nat.le_of_ble_eq_true rfl)⟩) hS (fun q _ h => hFc q h) hFc (fun u t H1 locs ht hvm hw hB hz1 hk1 hS => ?_)
            obtain ⟨v71, v72⟩ := u
            obtain ⟨hP1, hK1, hD1⟩ := hB
            rw [ht] at hP1
            obtain ⟨hP, hD⟩ := va_joinQ (wr := [((px_rf hh rf) 19, .inl (c_elements, 26, .inl g_elements)), ((px_rf hh rf) 20, .inl (c_fields, 26, .inl g_fields)), ((px_rf hh rf) 21, .inl (c_ranks, 26, .inl g_ranks)), ((px_rf hh rf) 22, .inl (c_kept, 89856, .inl g_kept)), ((px_rf hh rf) 23, .inl (c_keptSmall, 3744, .inl g_keptSmall)), ((px_rf hh rf) 48, .inl (c_decimals, 200, .inl g_decimals))]) (w1 := [(h0, .inr (8, px_mf (px_rf hh rf) v71)), ((px_rf hh rf) 46, .inl (c_sheet, 65536, .inl v72))]) hP hD [0, 6] [1, 2, 3, 4, 5, 7] rfl rfl (by decide) (by decide) hk1 hFc hP1 hD1
            generalize H1 = H at hP hS ⊢
            have hP : va_P (dC, dI) vwCl ([((px_rf hh rf) 19, .inl (c_elements, 26, .inl g_elements)), ((px_rf hh rf) 20, .inl (c_fields, 26, .inl g_fields)), ((px_rf hh rf) 21, .inl (c_ranks, 26, .inl g_ranks)), ((px_rf hh rf) 22, .inl (c_kept, 89856, .inl g_kept)), ((px_rf hh rf) 23, .inl (c_keptSmall, 3744, .inl g_keptSmall)), ((px_rf hh rf) 48, .inl (c_decimals, 200, .inl g_decimals)), (h0, .inr (8, px_mf (px_rf hh rf) v71)), ((px_rf hh rf) 46, .inl (c_sheet, 65536, .inl v72))] ++ px_np hh qq cN nv) H := hP
            have hD : va_D A ([((px_rf hh rf) 19, .inl (c_elements, 26, .inl g_elements)), ((px_rf hh rf) 20, .inl (c_fields, 26, .inl g_fields)), ((px_rf hh rf) 21, .inl (c_ranks, 26, .inl g_ranks)), ((px_rf hh rf) 22, .inl (c_kept, 89856, .inl g_kept)), ((px_rf hh rf) 23, .inl (c_keptSmall, 3744, .inl g_keptSmall)), ((px_rf hh rf) 48, .inl (c_decimals, 200, .inl g_decimals)), (h0, .inr (8, px_mf (px_rf hh rf) v71)), ((px_rf hh rf) 46, .inl (c_sheet, 65536, .inl v72))] ++ px_np hh qq cN nv) := hD
            have hP := hP.part (cx := [(h0, .inr (8, px_mf (px_rf hh rf) v71)), ((px_rf hh rf) 19, .inl (c_elements, 26, .inl g_elements)), ((px_rf hh rf) 20, .inl (c_fields, 26, .inl g_fields)), ((px_rf hh rf) 21, .inl (c_ranks, 26, .inl g_ranks)), ((px_rf hh rf) 22, .inl (c_kept, 89856, .inl g_kept)), ((px_rf hh rf) 23, .inl (c_keptSmall, 3744, .inl g_keptSmall)), ((px_rf hh rf) 46, .inl (c_sheet, 65536, .inl v72)), ((px_rf hh rf) 48, .inl (c_decimals, 200, .inl g_decimals))]) [6, 0, 1, 2, 3, 4, 7, 5] rfl
            have hD := hD.part (cx := [(h0, .inr (8, px_mf (px_rf hh rf) v71)), ((px_rf hh rf) 19, .inl (c_elements, 26, .inl g_elements)), ((px_rf hh rf) 20, .inl (c_fields, 26, .inl g_fields)), ((px_rf hh rf) 21, .inl (c_ranks, 26, .inl g_ranks)), ((px_rf hh rf) 22, .inl (c_kept, 89856, .inl g_kept)), ((px_rf hh rf) 23, .inl (c_keptSmall, 3744, .inl g_keptSmall)), ((px_rf hh rf) 46, .inl (c_sheet, 65536, .inl v72)), ((px_rf hh rf) 48, .inl (c_decimals, 200, .inl g_decimals))]) [6, 0, 1, 2, 3, 4, 7, 5] (by decide) rfl
            obtain ⟨z74, ez74⟩ : ∃ y : Int32, y = x2 + 1 := ⟨_, rfl⟩
            have hw := hw z74 ez74
            refine lv_iinc (v := z74) (lv' := [(2, .int z74), (0, .ref h0), (1, .int x1), (3, .int x3), (4, .int x4)]) hx hb px_d108_224 hl (k := 2) rfl (by rw [ez74]; rfl) (by decide) rfl (fun ls hl => ?_)
            refine lv_goto (tgt := 2) hx hb px_d108_227 (by decide) ?_
            exact ih2 x1 z74 v71 g_elements g_fields g_ranks g_kept g_keptSmall v72 g_decimals nv H locs ls hP hD hS (lv_sub hl [1, 2, 0] rfl) hw
          · have hw := hw.2 c30
            refine lv_iload hx hb px_d108_33 (lv_at hl 4 rfl) ?_
            refine lv_if_le (tgt := 44) hx hb px_d108_35 (by decide) (fun c35 => ?_) (fun c35 => ?_)
            · have hw := hw.1 c35
              exact S44 x1 x2 x3 x4 iv g_elements g_fields g_ranks g_kept g_keptSmall g_sheet g_decimals nv H locs ls hP hD hS (lv_sub hl [0, 1, 2, 3, 4] rfl) hw
            · have hw := hw.2 c35
              refine lv_aload_n hx hb px_d108_38 rfl (lv_at hl 0 rfl) ?_
              refine lv_bipush (v := 32) hx hb px_d108_39 (by decide) ?_
              have hPc := hP.sub (ws' := [(h0, .inr (8, px_mf (px_rf hh rf) iv)), ((px_rf hh rf) 46, .inl (c_sheet, 65536, .inl g_sheet))]) [0, 6] rfl
              have hDc := hD.sub (ws' := [(h0, .inr (8, px_mf (px_rf hh rf) iv)), ((px_rf hh rf) 46, .inl (c_sheet, 65536, .inl g_sheet))]) [0, 6] (by decide) rfl
              have hFc := va_free (wc := [(h0, .inr (8, px_mf (px_rf hh rf) iv)), ((px_rf hh rf) 46, .inl (c_sheet, 65536, .inl g_sheet))]) hD hS hA [0, 6] rfl
              have hKc := hK.sub (tys' := [(c_sheet, .byte)]) [5] rfl
              refine va_callv (va_runV (As := [.int 32]) (rest := []) ⟨hx, hb, hml, hown, htw⟩ (mpu_met l dC dI H.size h0 (px_rf hh rf) c_sheet 32 iv g_sheet _ hw) (cwV 1 htw (px_gv px_w700 px_w375 px_w376 px_w94 px_g37) rfl rfl rfl (by decide +kernel) ⟨Nat.le_of_ble_eq_true rfl, Nat.le_of_ble_eq_true rfl⟩) ⟨fun a U g mk q => by obtain ⟨q0, q1, qP, qK, qD, qN⟩ := q; exact ⟨q0, q1, qP, va_K.moved (u := U) (U := U.calling g mk a) (Vm.Alike.refl U.vm) qK, qD, qN.same rfl⟩, va_recv hK hP (ci := 8) (q0 := 0) rfl rfl, fun U hU hW => ⟨rfl, by rw [hU], by rw [hU]; exact hPc, va_K.moved hW.alike hKc, hDc.weaken (fun _ _ _ _ => trivial), hN.warm hW⟩⟩ rfl rfl hl.1 rfl (lv_room (Nat.le_of_ble_eq_true rfl)) px_d108_41 ⟨(Nat.le_of_ble_eq_true rfl), (Nat.le_of_ble_eq_true rfl)⟩) hS (fun q _ h => hFc q h) hFc (fun u t H1 locs ht hvm hw hB hz1 hk1 hS => ?_)
              obtain ⟨v75, v76⟩ := u
              obtain ⟨hP1, hK1, hD1⟩ := hB
              rw [ht] at hP1
              obtain ⟨hP, hD⟩ := va_joinQ (wr := [((px_rf hh rf) 19, .inl (c_elements, 26, .inl g_elements)), ((px_rf hh rf) 20, .inl (c_fields, 26, .inl g_fields)), ((px_rf hh rf) 21, .inl (c_ranks, 26, .inl g_ranks)), ((px_rf hh rf) 22, .inl (c_kept, 89856, .inl g_kept)), ((px_rf hh rf) 23, .inl (c_keptSmall, 3744, .inl g_keptSmall)), ((px_rf hh rf) 48, .inl (c_decimals, 200, .inl g_decimals))]) (w1 := [(h0, .inr (8, px_mf (px_rf hh rf) v75)), ((px_rf hh rf) 46, .inl (c_sheet, 65536, .inl v76))]) hP hD [0, 6] [1, 2, 3, 4, 5, 7] rfl rfl (by decide) (by decide) hk1 hFc hP1 hD1
              generalize H1 = H at hP hS ⊢
              have hP : va_P (dC, dI) vwCl ([((px_rf hh rf) 19, .inl (c_elements, 26, .inl g_elements)), ((px_rf hh rf) 20, .inl (c_fields, 26, .inl g_fields)), ((px_rf hh rf) 21, .inl (c_ranks, 26, .inl g_ranks)), ((px_rf hh rf) 22, .inl (c_kept, 89856, .inl g_kept)), ((px_rf hh rf) 23, .inl (c_keptSmall, 3744, .inl g_keptSmall)), ((px_rf hh rf) 48, .inl (c_decimals, 200, .inl g_decimals)), (h0, .inr (8, px_mf (px_rf hh rf) v75)), ((px_rf hh rf) 46, .inl (c_sheet, 65536, .inl v76))] ++ px_np hh qq cN nv) H := hP
              have hD : va_D A ([((px_rf hh rf) 19, .inl (c_elements, 26, .inl g_elements)), ((px_rf hh rf) 20, .inl (c_fields, 26, .inl g_fields)), ((px_rf hh rf) 21, .inl (c_ranks, 26, .inl g_ranks)), ((px_rf hh rf) 22, .inl (c_kept, 89856, .inl g_kept)), ((px_rf hh rf) 23, .inl (c_keptSmall, 3744, .inl g_keptSmall)), ((px_rf hh rf) 48, .inl (c_decimals, 200, .inl g_decimals)), (h0, .inr (8, px_mf (px_rf hh rf) v75)), ((px_rf hh rf) 46, .inl (c_sheet, 65536, .inl v76))] ++ px_np hh qq cN nv) := hD
              have hP := hP.part (cx := [(h0, .inr (8, px_mf (px_rf hh rf) v75)), ((px_rf hh rf) 19, .inl (c_elements, 26, .inl g_elements)), ((px_rf hh rf) 20, .inl (c_fields, 26, .inl g_fields)), ((px_rf hh rf) 21, .inl (c_ranks, 26, .inl g_ranks)), ((px_rf hh rf) 22, .inl (c_kept, 89856, .inl g_kept)), ((px_rf hh rf) 23, .inl (c_keptSmall, 3744, .inl g_keptSmall)), ((px_rf hh rf) 46, .inl (c_sheet, 65536, .inl v76)), ((px_rf hh rf) 48, .inl (c_decimals, 200, .inl g_decimals))]) [6, 0, 1, 2, 3, 4, 7, 5] rfl
              have hD := hD.part (cx := [(h0, .inr (8, px_mf (px_rf hh rf) v75)), ((px_rf hh rf) 19, .inl (c_elements, 26, .inl g_elements)), ((px_rf hh rf) 20, .inl (c_fields, 26, .inl g_fields)), ((px_rf hh rf) 21, .inl (c_ranks, 26, .inl g_ranks)), ((px_rf hh rf) 22, .inl (c_kept, 89856, .inl g_kept)), ((px_rf hh rf) 23, .inl (c_keptSmall, 3744, .inl g_keptSmall)), ((px_rf hh rf) 46, .inl (c_sheet, 65536, .inl v76)), ((px_rf hh rf) 48, .inl (c_decimals, 200, .inl g_decimals))]) [6, 0, 1, 2, 3, 4, 7, 5] (by decide) rfl
              exact S44 x1 x2 x3 x4 v75 g_elements g_fields g_ranks g_kept g_keptSmall v76 g_decimals nv H locs ls hP hD hS (lv_sub hl [0, 1, 2, 3, 4] rfl) hw
      intro x1 x2 iv g_elements g_fields g_ranks g_kept g_keptSmall g_sheet g_decimals nv H locs ls hP hD hS hl hw
      unfold w108_L2 at hw
      refine lv_iload_n hx hb px_d108_2 rfl (lv_at hl 2 rfl) ?_
      refine lv_aload_n hx hb px_d108_3 rfl (lv_at hl 0 rfl) ?_
      refine va_get (D := (dC, dI)) (ci := 8) (v := .ref ((px_rf hh rf) 21)) (C := "MatroidDeskModel") (T := px_T8) (N := 53) hx hb htw px_in8 hown hK hP 0 rfl rfl 21 (by decide) (htw _ px_w504) (fun _ h9 => h9) rfl px_d108_4 ?_
      refine lv_iload_n hx hb px_d108_7 rfl (lv_at hl 1 rfl) ?_
      obtain ⟨hi8, hw⟩ := hw
      refine va_iald hx hb hK hP 3 2 rfl rfl hi8 px_d108_8 ?_
      refine lv_icmp_ge (tgt := 230) hx hb px_d108_9 (by decide) (fun c9 => ?_) (fun c9 => ?_)
      · have hw := hw.1 c9
        rw [← hQ]
        exact W.vret hx hb hr (fun t ht hW => ⟨⟨(iv, g_elements, g_fields, g_ranks, g_kept, g_keptSmall, g_sheet, g_decimals, nv), rfl, hw, by rw [ht]; exact hP, va_K.moved hW.alike hK, hD⟩, hS.F ht⟩) hS.2.2 px_d108_230
      · have hw := hw.2 c9
        refine lv_aload_n hx hb px_d108_12 rfl (lv_at hl 0 rfl) ?_
        refine lv_iload_n hx hb px_d108_13 rfl (lv_at hl 1 rfl) ?_
        refine lv_iload_n hx hb px_d108_14 rfl (lv_at hl 2 rfl) ?_
        have hPc := hP.sub (ws' := [(h0, .inr (8, px_mf (px_rf hh rf) iv)), ((px_rf hh rf) 20, .inl (c_fields, 26, .inl g_fields)), ((px_rf hh rf) 22, .inl (c_kept, 89856, .inl g_kept)), ((px_rf hh rf) 23, .inl (c_keptSmall, 3744, .inl g_keptSmall))]) [0, 2, 4, 5] rfl
        have hDc := hD.sub (ws' := [(h0, .inr (8, px_mf (px_rf hh rf) iv)), ((px_rf hh rf) 20, .inl (c_fields, 26, .inl g_fields)), ((px_rf hh rf) 22, .inl (c_kept, 89856, .inl g_kept)), ((px_rf hh rf) 23, .inl (c_keptSmall, 3744, .inl g_keptSmall))]) [0, 2, 4, 5] (by decide) rfl
        have hFc := va_free (wc := [(h0, .inr (8, px_mf (px_rf hh rf) iv)), ((px_rf hh rf) 20, .inl (c_fields, 26, .inl g_fields)), ((px_rf hh rf) 22, .inl (c_kept, 89856, .inl g_kept)), ((px_rf hh rf) 23, .inl (c_keptSmall, 3744, .inl g_keptSmall))]) hD hS hA [0, 2, 4, 5] rfl
        have hKc := hK.sub (tys' := [(c_fields, .int), (c_kept, .int), (c_keptSmall, .int)]) [1, 3, 4] rfl
        refine va_calli (va_runV (As := [.int x1, .int x2]) (rest := []) ⟨hx, hb, hml, hown, htw⟩ (w90_met l dC dI H.size h0 (px_rf hh rf) c_fields c_kept c_keptSmall x1 x2 iv g_fields g_kept g_keptSmall _ hw) (cwV 2 htw (px_gv px_w633 px_w627 px_w628 px_w94 px_g90) rfl rfl rfl (by decide +kernel) ⟨Nat.le_of_ble_eq_true rfl, Nat.le_of_ble_eq_true rfl⟩) ⟨fun a U g mk q => by obtain ⟨q0, q1, qP, qK, qD, qN⟩ := q; exact ⟨q0, q1, qP, va_K.moved (u := U) (U := U.calling g mk a) (Vm.Alike.refl U.vm) qK, qD, qN.same rfl⟩, va_recv hK hP (ci := 8) (q0 := 0) rfl rfl, fun U hU hW => ⟨rfl, by rw [hU], by rw [hU]; exact hPc, va_K.moved hW.alike hKc, hDc.weaken (fun _ _ _ _ => trivial), hN.warm hW⟩⟩ rfl rfl hl.1 rfl (lv_room (Nat.le_of_ble_eq_true rfl)) px_d108_15 ⟨(Nat.le_of_ble_eq_true rfl), (Nat.le_of_ble_eq_true rfl)⟩) hS (fun q _ h => hFc q h) hFc (fun r15 u t H1 locs ht hvm hw hB hz1 hk1 hS => ?_)
        obtain ⟨v78, v79, v80, v81⟩ := u
        obtain ⟨hP1, hK1, hD1⟩ := hB
        rw [ht] at hP1
        obtain ⟨hP, hD⟩ := va_joinQ (wr := [((px_rf hh rf) 19, .inl (c_elements, 26, .inl g_elements)), ((px_rf hh rf) 21, .inl (c_ranks, 26, .inl g_ranks)), ((px_rf hh rf) 46, .inl (c_sheet, 65536, .inl g_sheet)), ((px_rf hh rf) 48, .inl (c_decimals, 200, .inl g_decimals))]) (w1 := [(h0, .inr (8, px_mf (px_rf hh rf) v78)), ((px_rf hh rf) 20, .inl (c_fields, 26, .inl v79)), ((px_rf hh rf) 22, .inl (c_kept, 89856, .inl v80)), ((px_rf hh rf) 23, .inl (c_keptSmall, 3744, .inl v81))]) hP hD [0, 2, 4, 5] [1, 3, 6, 7] rfl rfl (by decide) (by decide) hk1 hFc hP1 hD1
        generalize H1 = H at hP hS ⊢
        have hP : va_P (dC, dI) vwCl ([((px_rf hh rf) 19, .inl (c_elements, 26, .inl g_elements)), ((px_rf hh rf) 21, .inl (c_ranks, 26, .inl g_ranks)), ((px_rf hh rf) 46, .inl (c_sheet, 65536, .inl g_sheet)), ((px_rf hh rf) 48, .inl (c_decimals, 200, .inl g_decimals)), (h0, .inr (8, px_mf (px_rf hh rf) v78)), ((px_rf hh rf) 20, .inl (c_fields, 26, .inl v79)), ((px_rf hh rf) 22, .inl (c_kept, 89856, .inl v80)), ((px_rf hh rf) 23, .inl (c_keptSmall, 3744, .inl v81))] ++ px_np hh qq cN nv) H := hP
        have hD : va_D A ([((px_rf hh rf) 19, .inl (c_elements, 26, .inl g_elements)), ((px_rf hh rf) 21, .inl (c_ranks, 26, .inl g_ranks)), ((px_rf hh rf) 46, .inl (c_sheet, 65536, .inl g_sheet)), ((px_rf hh rf) 48, .inl (c_decimals, 200, .inl g_decimals)), (h0, .inr (8, px_mf (px_rf hh rf) v78)), ((px_rf hh rf) 20, .inl (c_fields, 26, .inl v79)), ((px_rf hh rf) 22, .inl (c_kept, 89856, .inl v80)), ((px_rf hh rf) 23, .inl (c_keptSmall, 3744, .inl v81))] ++ px_np hh qq cN nv) := hD
        have hP := hP.part (cx := [(h0, .inr (8, px_mf (px_rf hh rf) v78)), ((px_rf hh rf) 19, .inl (c_elements, 26, .inl g_elements)), ((px_rf hh rf) 20, .inl (c_fields, 26, .inl v79)), ((px_rf hh rf) 21, .inl (c_ranks, 26, .inl g_ranks)), ((px_rf hh rf) 22, .inl (c_kept, 89856, .inl v80)), ((px_rf hh rf) 23, .inl (c_keptSmall, 3744, .inl v81)), ((px_rf hh rf) 46, .inl (c_sheet, 65536, .inl g_sheet)), ((px_rf hh rf) 48, .inl (c_decimals, 200, .inl g_decimals))]) [4, 0, 5, 1, 6, 7, 2, 3] rfl
        have hD := hD.part (cx := [(h0, .inr (8, px_mf (px_rf hh rf) v78)), ((px_rf hh rf) 19, .inl (c_elements, 26, .inl g_elements)), ((px_rf hh rf) 20, .inl (c_fields, 26, .inl v79)), ((px_rf hh rf) 21, .inl (c_ranks, 26, .inl g_ranks)), ((px_rf hh rf) 22, .inl (c_kept, 89856, .inl v80)), ((px_rf hh rf) 23, .inl (c_keptSmall, 3744, .inl v81)), ((px_rf hh rf) 46, .inl (c_sheet, 65536, .inl g_sheet)), ((px_rf hh rf) 48, .inl (c_decimals, 200, .inl g_decimals))]) [4, 0, 5, 1, 6, 7, 2, 3] (by decide) rfl
        refine lv_istore_n (lv' := [(3, .int r15), (0, .ref h0), (1, .int x1), (2, .int x2)]) hx hb px_d108_18 rfl hl (by decide) rfl (fun ls hl => ?_)
        refine lv_iconst (v := 0) hx hb px_d108_19 (by decide) ?_
        refine lv_istore (lv' := [(4, .int 0), (3, .int r15), (0, .ref h0), (1, .int x1), (2, .int x2)]) hx hb px_d108_20 hl (by decide) rfl (fun ls hl => ?_)
        obtain ⟨k9, hw⟩ := hw
        exact S22 k9 x1 x2 r15 0 v78 g_elements v79 g_ranks v80 v81 g_sheet g_decimals nv H locs ls hP hD hS (lv_sub hl [2, 3, 4, 1, 0] rfl) hw
  unfold w108_wp at hw
  have hS0 := hS
  obtain ⟨H, hH9⟩ : ∃ z, z = s.heap := ⟨_, rfl⟩
  have hP : va_P (dC, dI) vwCl ([(h0, .inr (8, px_mf (px_rf hh rf) iv)), ((px_rf hh rf) 19, .inl (c_elements, 26, .inl g_elements)), ((px_rf hh rf) 20, .inl (c_fields, 26, .inl g_fields)), ((px_rf hh rf) 21, .inl (c_ranks, 26, .inl g_ranks)), ((px_rf hh rf) 22, .inl (c_kept, 89856, .inl g_kept)), ((px_rf hh rf) 23, .inl (c_keptSmall, 3744, .inl g_keptSmall)), ((px_rf hh rf) 46, .inl (c_sheet, 65536, .inl g_sheet)), ((px_rf hh rf) 48, .inl (c_decimals, 200, .inl g_decimals))] ++ px_np hh qq cN nv) H := by rw [hH9]; exact hP
  obtain ⟨locs, hlo9⟩ : ∃ z : List Loc, z = [] := ⟨_, rfl⟩
  have hS : va_S A s.heap H locs := by rw [hH9, hlo9]; exact hS
  suffices hG : W p l e (headSpec px_s108 ({ frames := 4, cells := 0, slots := 0, locals := 102 })).room s m ([.ref h0, .int a1x]).toArray below meth c H locs 0 0 Q (F0 m 0 ls []) by rw [hH9, hlo9] at hG; exact hG
  refine lv_iconst (v := 0) hx hb px_d108_0 (by decide) ?_
  refine lv_istore_n (lv' := [(2, .int 0), (0, .ref h0), (1, .int a1x)]) hx hb px_d108_1 rfl hl (by decide) rfl (fun ls hl => ?_)
  obtain ⟨k9, hw⟩ := hw
  exact S2 k9 a1x 0 iv g_elements g_fields g_ranks g_kept g_keptSmall g_sheet g_decimals nv H locs ls hP hD hS (lv_sub hl [1, 2, 0] rfl) hw

