/-! MatroidDeskModel.store(LMatroidDeskModel$Num;I)V -/
def w64_L27 (a1x : Nat) (post : (Nat → Int32) → (Nat → Int32) → (Nat → px_NV) → Prop) : Nat → Int32 → Int32 → (Nat → Int32) → (Nat → Int32) → (Nat → px_NV) → Prop
  | 0 => fun _ _ _ _ _ => False
  | k + 1 => fun x2 x3 iv g_kept nv => a1x < 200 ∧ ((((nv a1x).1) ≤ x3 → post iv g_kept nv) ∧ (¬ ((nv a1x).1) ≤ x3 → a1x < 200 ∧ (a1x < 200 ∧ (vp_in x3 160 ∧ (∀ z1 : Int32, z1 = (nv a1x).2.2 (Int32.toNatClampNeg x3) → vp_in ((x2 + 1) + x3) 89856 ∧ (∀ z2 : Int32, z2 = x3 + 1 → (w64_L27 a1x post k) x2 z2 iv (upd g_kept (Int32.toNatClampNeg ((x2 + 1) + x3)) z1) nv))))))
def w64_L24 (a1x : Nat) (post : (Nat → Int32) → (Nat → Int32) → (Nat → px_NV) → Prop) (x2 : Int32) (y0 : Int32) (y1 : Int32) (iv : Nat → Int32) (g_kept : Nat → Int32) (nv : Nat → px_NV) : Prop := vp_in y1 89856 ∧ (∃ j27, w64_L27 a1x post j27 x2 0 iv (upd g_kept (Int32.toNatClampNeg y1) y0) nv)
def w64_wp (a1x : Nat) (post : (Nat → Int32) → (Nat → Int32) → (Nat → px_NV) → Prop) (a2x : Int32) (iv : Nat → Int32) (g_kept : Nat → Int32) (nv : Nat → px_NV) : Prop := a1x < 200 ∧ ((((nv a1x).2.1) = 0 → a1x < 200 ∧ (w64_L24 a1x post a2x ((nv a1x).1) a2x iv g_kept nv)) ∧ (¬ ((nv a1x).2.1) = 0 → a1x < 200 ∧ (w64_L24 a1x post a2x (-((nv a1x).1)) a2x iv g_kept nv)))
set_option maxHeartbeats 8000000 in
set_option maxRecDepth 100000 in
theorem w64_met (l : Launch) (dC : Nat → ClassId) (dI : Nat → Nat → Nat) (sz : Nat) (h0 : Nat) (rf : Nat → Nat) (hh : Nat → Nat) (qq : Nat → Nat) (cN : ClassId) (a1x : Nat) (c_kept : ClassId) (a2x : Int32) (iv : Nat → Int32) (g_kept : Nat → Int32) (nv : Nat → px_NV) (post : (Nat → Int32) → (Nat → Int32) → (Nat → px_NV) → Prop) (hw : w64_wp a1x post a2x iv g_kept nv) : Met l px_y64 px_s64 ({ frames := 0, cells := 0, slots := 0, locals := 0 }) (va_Pc [.ref h0, .ref (hh a1x), .int a2x] (fun U => U.heap.size = sz ∧ va_P (dC, dI) vwCl (([(h0, .inr (8, px_mf (px_rf hh rf) iv)), ((px_rf hh rf) 22, .inl (c_kept, 89856, .inl g_kept))] : va_W) ++ px_np hh qq cN nv) U.heap ∧ va_K (dC, dI) vwCl [(c_kept, .int), (cN, .int)] U ∧ va_D (fun _ => True) (([(h0, .inr (8, px_mf (px_rf hh rf) iv)), ((px_rf hh rf) 22, .inl (c_kept, 89856, .inl g_kept))] : va_W) ++ px_np hh qq cN nv) ∧ px_N U)) (va_Qv (fun (u : (Nat → Int32) × (Nat → Int32) × (Nat → px_NV)) => post u.1 u.2.1 u.2.2) (fun (u : (Nat → Int32) × (Nat → Int32) × (Nat → px_NV)) (t : State) => va_P (dC, dI) vwCl (([(h0, .inr (8, px_mf (px_rf hh rf) u.1)), ((px_rf hh rf) 22, .inl (c_kept, 89856, .inl u.2.1))] : va_W) ++ px_np hh qq cN u.2.2) t.heap ∧ va_K (dC, dI) vwCl [(c_kept, .int), (cN, .int)] t ∧ va_D (va_A (([(h0, .inr (8, px_mf (px_rf hh rf) iv)), ((px_rf hh rf) 22, .inl (c_kept, 89856, .inl g_kept))] : va_W) ++ px_np hh qq cN nv) sz) (([(h0, .inr (8, px_mf (px_rf hh rf) u.1)), ((px_rf hh rf) 22, .inl (c_kept, 89856, .inl u.2.1))] : va_W) ++ px_np hh qq cN u.2.2)) (va_A (([(h0, .inr (8, px_mf (px_rf hh rf) iv)), ((px_rf hh rf) 22, .inl (c_kept, 89856, .inl g_kept))] : va_W) ++ px_np hh qq cN nv) sz)) 0 0 (va_A (([(h0, .inr (8, px_mf (px_rf hh rf) iv)), ((px_rf hh rf) 22, .inl (c_kept, 89856, .inl g_kept))] : va_W) ++ px_np hh qq cN nv) sz) := by
  refine Met.ofW (cc := prog_15_method_19_code) (maxL := 4) (ret := none) (by decide) rfl ?_
  intro p e s m args below meth c s₁ B hml hv
  obtain ⟨rfl, hsz, hP, hK, hD0, hN⟩ := hv
  have hx := B.exec
  have hb := B.bytes
  have hr := B.returns
  have htw : ∀ w ∈ px_all, w.before _ s = true := fun w h => atoms_spec (ws := px_s64) B.pre w (List.mem_cons_of_mem _ h)
  have hown : s.vm.findClass "MatroidDeskModel" = some m.cls := findClass_of_methodNamed B.named
  have hlocks := B.notSynchronized
  subst hsz
  have hD := hD0.self (sz := s.heap.size)
  generalize hAe : va_A (([(h0, .inr (8, px_mf (px_rf hh rf) iv)), ((px_rf hh rf) 22, .inl (c_kept, 89856, .inl g_kept))] : va_W) ++ px_np hh qq cN nv) s.heap.size = A at hD ⊢
  have hA : ∀ q : Nat, s.heap.size ≤ q → A q := fun q h => by rw [← hAe]; exact Or.inr h
  have hS : va_S A s.heap s.heap [] := va_S.rf
  have hP : va_P (dC, dI) vwCl (([(h0, .inr (8, px_mf (px_rf hh rf) iv)), ((px_rf hh rf) 22, .inl (c_kept, 89856, .inl g_kept))] : va_W) ++ px_np hh qq cN nv) s.heap := hP
  have hl := lv_entry ([.ref h0, .ref (hh a1x), .int a2x]) (n := 4) (Nat.le_of_ble_eq_true rfl)
  rw [lg_entry_eq]
  generalize (lg_sl ([.ref h0, .ref (hh a1x), .int a2x]) ++ List.replicate (4 - (lg_sl ([.ref h0, .ref (hh a1x), .int a2x])).length) Slot.unset).toArray = ls at hl ⊢
  have hl : lv_has ls 4 [(0, .ref h0), (1, .ref (hh a1x)), (2, .int a2x)] := hl
  generalize hQ : MQ _ _ _ _ _ _ _ = Q
  have S27 : ∀ (k27 : Nat) (x2 : Int32) (x3 : Int32) (iv : Nat → Int32) (g_kept : Nat → Int32) (nv : Nat → px_NV) (H : Heap) (locs : List Loc) (ls : Array Slot), va_P (dC, dI) vwCl (([(h0, .inr (8, px_mf (px_rf hh rf) iv)), ((px_rf hh rf) 22, .inl (c_kept, 89856, .inl g_kept))] : va_W) ++ px_np hh qq cN nv) H → va_D A (([(h0, .inr (8, px_mf (px_rf hh rf) iv)), ((px_rf hh rf) 22, .inl (c_kept, 89856, .inl g_kept))] : va_W) ++ px_np hh qq cN nv) → va_S A s.heap H locs → lv_has ls 4 [(0, .ref h0), (1, .ref (hh a1x)), (2, .int x2), (3, .int x3)] → w64_L27 a1x post k27 x2 x3 iv g_kept nv → W p l e (headSpec px_s64 ({ frames := 0, cells := 0, slots := 0, locals := 0 })).room s m ([.ref h0, .ref (hh a1x), .int a2x]).toArray below meth c H locs 0 0 Q (F0 m 27 ls []) := by
    intro k27
    induction k27 with
    | zero => intro x2 x3 iv g_kept nv H locs ls hP hD hS hl hw; exact False.elim hw
    | succ k27 ih27 =>
      intro x2 x3 iv g_kept nv H locs ls hP hD hS hl hw
      unfold w64_L27 at hw
      refine lv_iload_n hx hb px_d64_27 rfl (lv_at hl 3 rfl) ?_
      refine lv_aload_n hx hb px_d64_28 rfl (lv_at hl 1 rfl) ?_
      obtain ⟨hp29, hw⟩ := hw
      refine va_get (D := (dC, dI)) (ci := 9) (v := .int ((nv a1x).1)) (C := "MatroidDeskModel$Num") (T := px_T9) (N := 3) hx hb htw px_in9 hown hK hP (2 + a1x) (px_go rfl hp29) rfl 1 (by decide) (htw _ px_w417) (fun _ h9 => h9) rfl px_d64_29 ?_
      refine lv_icmp_ge (tgt := 57) hx hb px_d64_32 (by decide) (fun c32 => ?_) (fun c32 => ?_)
      · have hw := hw.1 c32
        rw [← hQ]
        exact W.vret hx hb hr (fun t ht hW => ⟨⟨(iv, g_kept, nv), rfl, hw, by rw [ht]; exact hP, va_K.moved hW.alike hK, hD⟩, hS.F ht⟩) hS.2.2 px_d64_57
      · have hw := hw.2 c32
        refine lv_aload_n hx hb px_d64_35 rfl (lv_at hl 0 rfl) ?_
        refine va_get (D := (dC, dI)) (ci := 8) (v := .ref ((px_rf hh rf) 22)) (C := "MatroidDeskModel") (T := px_T8) (N := 53) hx hb htw px_in8 hown hK hP 0 rfl rfl 22 (by decide) (htw _ px_w506) (fun _ h9 => h9) rfl px_d64_36 ?_
        refine lv_iload_n hx hb px_d64_39 rfl (lv_at hl 2 rfl) ?_
        refine lv_iconst (v := 1) hx hb px_d64_40 (by decide) ?_
        refine lv_iadd hx hb px_d64_41 ?_
        refine lv_iload_n hx hb px_d64_42 rfl (lv_at hl 3 rfl) ?_
        refine lv_iadd hx hb px_d64_43 ?_
        refine lv_aload_n hx hb px_d64_44 rfl (lv_at hl 1 rfl) ?_
        obtain ⟨hp45, hw⟩ := hw
        refine va_get (D := (dC, dI)) (ci := 9) (v := .ref (qq a1x)) (C := "MatroidDeskModel$Num") (T := px_T9) (N := 3) hx hb htw px_in9 hown hK hP (2 + a1x) (px_go rfl hp45) rfl 0 (by decide) (htw _ px_w529) (fun _ h9 => h9) rfl px_d64_45 ?_
        refine lv_iload_n hx hb px_d64_48 rfl (lv_at hl 3 rfl) ?_
        obtain ⟨hp49, hw⟩ := hw
        obtain ⟨hi49, hw⟩ := hw
        refine va_iald hx hb hK hP (2 + (200 + a1x)) 1 (px_ga rfl hp49) rfl hi49 px_d64_49 ?_
        refine lv_topi (fun z1 ez1 => ?_)
        have hw := hw z1 ez1
        obtain ⟨hi50, hw⟩ := hw
        refine va_iast hx hb hK hP hD hS 1 0 rfl rfl hi50 px_d64_50 (fun H locs hP hD hS => ?_)
        have hP : va_P (dC, dI) vwCl (([(h0, .inr (8, px_mf (px_rf hh rf) iv)), ((px_rf hh rf) 22, .inl (c_kept, 89856, .inl (upd g_kept (Int32.toNatClampNeg ((x2 + 1) + x3)) z1)))] : va_W) ++ px_np hh qq cN nv) H := hP
        have hD : va_D A (([(h0, .inr (8, px_mf (px_rf hh rf) iv)), ((px_rf hh rf) 22, .inl (c_kept, 89856, .inl (upd g_kept (Int32.toNatClampNeg ((x2 + 1) + x3)) z1)))] : va_W) ++ px_np hh qq cN nv) := hD
        obtain ⟨z2, ez2⟩ : ∃ y : Int32, y = x3 + 1 := ⟨_, rfl⟩
        have hw := hw z2 ez2
        refine lv_iinc (v := z2) (lv' := [(3, .int z2), (0, .ref h0), (1, .ref (hh a1x)), (2, .int x2)]) hx hb px_d64_51 hl (k := 3) rfl (by rw [ez2]; rfl) (by decide) rfl (fun ls hl => ?_)
        refine lv_goto (tgt := 27) hx hb px_d64_54 (by decide) ?_
        exact ih27 x2 z2 iv (upd g_kept (Int32.toNatClampNeg ((x2 + 1) + x3)) z1) nv H locs ls hP hD hS (lv_sub hl [1, 2, 3, 0] rfl) hw
  have S24 : ∀ (x2 : Int32) (y0 : Int32) (y1 : Int32) (iv : Nat → Int32) (g_kept : Nat → Int32) (nv : Nat → px_NV) (H : Heap) (locs : List Loc) (ls : Array Slot), va_P (dC, dI) vwCl (([(h0, .inr (8, px_mf (px_rf hh rf) iv)), ((px_rf hh rf) 22, .inl (c_kept, 89856, .inl g_kept))] : va_W) ++ px_np hh qq cN nv) H → va_D A (([(h0, .inr (8, px_mf (px_rf hh rf) iv)), ((px_rf hh rf) 22, .inl (c_kept, 89856, .inl g_kept))] : va_W) ++ px_np hh qq cN nv) → va_S A s.heap H locs → lv_has ls 4 [(0, .ref h0), (1, .ref (hh a1x)), (2, .int x2)] → w64_L24 a1x post x2 y0 y1 iv g_kept nv → W p l e (headSpec px_s64 ({ frames := 0, cells := 0, slots := 0, locals := 0 })).room s m ([.ref h0, .ref (hh a1x), .int a2x]).toArray below meth c H locs 0 0 Q (F0 m 24 ls [.int y0, .int y1, .ref ((px_rf hh rf) 22)]) := by
    intro x2 y0 y1 iv g_kept nv H locs ls hP hD hS hl hw
    unfold w64_L24 at hw
    obtain ⟨hi24, hw⟩ := hw
    refine va_iast hx hb hK hP hD hS 1 0 rfl rfl hi24 px_d64_24 (fun H locs hP hD hS => ?_)
    have hP : va_P (dC, dI) vwCl (([(h0, .inr (8, px_mf (px_rf hh rf) iv)), ((px_rf hh rf) 22, .inl (c_kept, 89856, .inl (upd g_kept (Int32.toNatClampNeg y1) y0)))] : va_W) ++ px_np hh qq cN nv) H := hP
    have hD : va_D A (([(h0, .inr (8, px_mf (px_rf hh rf) iv)), ((px_rf hh rf) 22, .inl (c_kept, 89856, .inl (upd g_kept (Int32.toNatClampNeg y1) y0)))] : va_W) ++ px_np hh qq cN nv) := hD
    refine lv_iconst (v := 0) hx hb px_d64_25 (by decide) ?_
    refine lv_istore_n (lv' := [(3, .int 0), (0, .ref h0), (1, .ref (hh a1x)), (2, .int x2)]) hx hb px_d64_26 rfl hl (by decide) rfl (fun ls hl => ?_)
    obtain ⟨k9, hw⟩ := hw
    exact S27 k9 x2 0 iv (upd g_kept (Int32.toNatClampNeg y1) y0) nv H locs ls hP hD hS (lv_sub hl [1, 2, 3, 0] rfl) hw
  unfold w64_wp at hw
  have hS0 := hS
  obtain ⟨H, hH9⟩ : ∃ z, z = s.heap := ⟨_, rfl⟩
  have hP : va_P (dC, dI) vwCl (([(h0, .inr (8, px_mf (px_rf hh rf) iv)), ((px_rf hh rf) 22, .inl (c_kept, 89856, .inl g_kept))] : va_W) ++ px_np hh qq cN nv) H := by rw [hH9]; exact hP
  obtain ⟨locs, hlo9⟩ : ∃ z : List Loc, z = [] := ⟨_, rfl⟩
  have hS : va_S A s.heap H locs := by rw [hH9, hlo9]; exact hS
  suffices hG : W p l e (headSpec px_s64 ({ frames := 0, cells := 0, slots := 0, locals := 0 })).room s m ([.ref h0, .ref (hh a1x), .int a2x]).toArray below meth c H locs 0 0 Q (F0 m 0 ls []) by rw [hH9, hlo9] at hG; exact hG
  refine lv_aload_n hx hb px_d64_0 rfl (lv_at hl 0 rfl) ?_
  refine va_get (D := (dC, dI)) (ci := 8) (v := .ref ((px_rf hh rf) 22)) (C := "MatroidDeskModel") (T := px_T8) (N := 53) hx hb htw px_in8 hown hK hP 0 rfl rfl 22 (by decide) (htw _ px_w506) (fun _ h9 => h9) rfl px_d64_1 ?_
  refine lv_iload_n hx hb px_d64_4 rfl (lv_at hl 2 rfl) ?_
  refine lv_aload_n hx hb px_d64_5 rfl (lv_at hl 1 rfl) ?_
  obtain ⟨hp6, hw⟩ := hw
  refine va_get (D := (dC, dI)) (ci := 9) (v := .int ((nv a1x).2.1)) (C := "MatroidDeskModel$Num") (T := px_T9) (N := 3) hx hb htw px_in9 hown hK hP (2 + a1x) (px_go rfl hp6) rfl 2 (by decide) (htw _ px_w415) (fun _ h9 => h9) rfl px_d64_6 ?_
  refine lv_if_eq (tgt := 20) hx hb px_d64_9 (by decide) (fun c9 => ?_) (fun c9 => ?_)
  · have hw := hw.1 c9
    refine lv_aload_n hx hb px_d64_20 rfl (lv_at hl 1 rfl) ?_
    obtain ⟨hp21, hw⟩ := hw
    refine va_get (D := (dC, dI)) (ci := 9) (v := .int ((nv a1x).1)) (C := "MatroidDeskModel$Num") (T := px_T9) (N := 3) hx hb htw px_in9 hown hK hP (2 + a1x) (px_go rfl hp21) rfl 1 (by decide) (htw _ px_w417) (fun _ h9 => h9) rfl px_d64_21 ?_
    exact S24 a2x ((nv a1x).1) a2x iv g_kept nv H locs ls hP hD hS (lv_sub hl [0, 1, 2] rfl) hw
  · have hw := hw.2 c9
    refine lv_aload_n hx hb px_d64_12 rfl (lv_at hl 1 rfl) ?_
    obtain ⟨hp13, hw⟩ := hw
    refine va_get (D := (dC, dI)) (ci := 9) (v := .int ((nv a1x).1)) (C := "MatroidDeskModel$Num") (T := px_T9) (N := 3) hx hb htw px_in9 hown hK hP (2 + a1x) (px_go rfl hp13) rfl 1 (by decide) (htw _ px_w417) (fun _ h9 => h9) rfl px_d64_13 ?_
    refine lv_ineg hx hb px_d64_16 ?_
    refine lv_goto (tgt := 24) hx hb px_d64_17 (by decide) ?_
    exact S24 a2x (-((nv a1x).1)) a2x iv g_kept nv H locs ls hP hD hS (lv_sub hl [0, 1, 2] rfl) hw

/-! MatroidDeskModel.fetch(LMatroidDeskModel$Num;I)V -/
def w65_L49 (a1x : Nat) (post : (Nat → Int32) → (Nat → Int32) → (Nat → px_NV) → Prop) : Nat → Int32 → Int32 → (Nat → Int32) → (Nat → Int32) → (Nat → px_NV) → Prop
  | 0 => fun _ _ _ _ _ => False
  | k + 1 => fun x2 x3 iv g_kept nv => a1x < 200 ∧ ((((nv a1x).1) ≤ x3 → post iv g_kept nv) ∧ (¬ ((nv a1x).1) ≤ x3 → a1x < 200 ∧ (vp_in ((x2 + 1) + x3) 89856 ∧ (∀ z1 : Int32, z1 = g_kept (Int32.toNatClampNeg ((x2 + 1) + x3)) → a1x < 200 ∧ (vp_in x3 160 ∧ (∀ nv2 : Nat → px_NV, nv2 = va_up nv a1x ⟨(nv a1x).1, (nv a1x).2.1, upd (nv a1x).2.2 (Int32.toNatClampNeg x3) z1⟩ → (∀ z3 : Int32, z3 = x3 + 1 → (w65_L49 a1x post k) x2 z3 iv g_kept nv2)))))))
def w65_L44 (a1x : Nat) (post : (Nat → Int32) → (Nat → Int32) → (Nat → px_NV) → Prop) (x2 : Int32) (y0 : Int32) (iv : Nat → Int32) (g_kept : Nat → Int32) (nv : Nat → px_NV) : Prop := a1x < 200 ∧ ((∀ nv4 : Nat → px_NV, nv4 = va_up nv a1x ⟨y0, (nv a1x).2.1, (nv a1x).2.2⟩ → (∃ j49, w65_L49 a1x post j49 x2 0 iv g_kept nv4)))
def w65_L15 (a1x : Nat) (post : (Nat → Int32) → (Nat → Int32) → (Nat → px_NV) → Prop) (x2 : Int32) (y0 : Int32) (iv : Nat → Int32) (g_kept : Nat → Int32) (nv : Nat → px_NV) : Prop := a1x < 200 ∧ ((narrow .boolean (.int y0) = .int y0 ∧ fits .boolean (.int y0) = true) ∧ (∀ nv5 : Nat → px_NV, nv5 = va_up nv a1x ⟨(nv a1x).1, y0, (nv a1x).2.2⟩ → (vp_in x2 89856 ∧ ((0 ≤ (g_kept (Int32.toNatClampNeg x2)) → vp_in x2 89856 ∧ (w65_L44 a1x post x2 (g_kept (Int32.toNatClampNeg x2)) iv g_kept nv5)) ∧ (¬ 0 ≤ (g_kept (Int32.toNatClampNeg x2)) → vp_in x2 89856 ∧ (w65_L44 a1x post x2 (-(g_kept (Int32.toNatClampNeg x2))) iv g_kept nv5))))))
def w65_wp (a1x : Nat) (post : (Nat → Int32) → (Nat → Int32) → (Nat → px_NV) → Prop) (a2x : Int32) (iv : Nat → Int32) (g_kept : Nat → Int32) (nv : Nat → px_NV) : Prop := vp_in a2x 89856 ∧ ((0 ≤ (g_kept (Int32.toNatClampNeg a2x)) → w65_L15 a1x post a2x 0 iv g_kept nv) ∧ (¬ 0 ≤ (g_kept (Int32.toNatClampNeg a2x)) → w65_L15 a1x post a2x 1 iv g_kept nv))
set_option maxHeartbeats 8000000 in
set_option maxRecDepth 100000 in
theorem w65_met (l : Launch) (dC : Nat → ClassId) (dI : Nat → Nat → Nat) (sz : Nat) (h0 : Nat) (rf : Nat → Nat) (hh : Nat → Nat) (qq : Nat → Nat) (cN : ClassId) (a1x : Nat) (c_kept : ClassId) (a2x : Int32) (iv : Nat → Int32) (g_kept : Nat → Int32) (nv : Nat → px_NV) (post : (Nat → Int32) → (Nat → Int32) → (Nat → px_NV) → Prop) (hw : w65_wp a1x post a2x iv g_kept nv) : Met l px_y65 px_s65 ({ frames := 0, cells := 0, slots := 0, locals := 0 }) (va_Pc [.ref h0, .ref (hh a1x), .int a2x] (fun U => U.heap.size = sz ∧ va_P (dC, dI) vwCl (([(h0, .inr (8, px_mf (px_rf hh rf) iv)), ((px_rf hh rf) 22, .inl (c_kept, 89856, .inl g_kept))] : va_W) ++ px_np hh qq cN nv) U.heap ∧ va_K (dC, dI) vwCl [(c_kept, .int), (cN, .int)] U ∧ va_D (fun _ => True) (([(h0, .inr (8, px_mf (px_rf hh rf) iv)), ((px_rf hh rf) 22, .inl (c_kept, 89856, .inl g_kept))] : va_W) ++ px_np hh qq cN nv) ∧ px_N U)) (va_Qv (fun (u : (Nat → Int32) × (Nat → Int32) × (Nat → px_NV)) => post u.1 u.2.1 u.2.2) (fun (u : (Nat → Int32) × (Nat → Int32) × (Nat → px_NV)) (t : State) => va_P (dC, dI) vwCl (([(h0, .inr (8, px_mf (px_rf hh rf) u.1)), ((px_rf hh rf) 22, .inl (c_kept, 89856, .inl u.2.1))] : va_W) ++ px_np hh qq cN u.2.2) t.heap ∧ va_K (dC, dI) vwCl [(c_kept, .int), (cN, .int)] t ∧ va_D (va_A (([(h0, .inr (8, px_mf (px_rf hh rf) iv)), ((px_rf hh rf) 22, .inl (c_kept, 89856, .inl g_kept))] : va_W) ++ px_np hh qq cN nv) sz) (([(h0, .inr (8, px_mf (px_rf hh rf) u.1)), ((px_rf hh rf) 22, .inl (c_kept, 89856, .inl u.2.1))] : va_W) ++ px_np hh qq cN u.2.2)) (va_A (([(h0, .inr (8, px_mf (px_rf hh rf) iv)), ((px_rf hh rf) 22, .inl (c_kept, 89856, .inl g_kept))] : va_W) ++ px_np hh qq cN nv) sz)) 0 0 (va_A (([(h0, .inr (8, px_mf (px_rf hh rf) iv)), ((px_rf hh rf) 22, .inl (c_kept, 89856, .inl g_kept))] : va_W) ++ px_np hh qq cN nv) sz) := by
  refine Met.ofW (cc := prog_15_method_20_code) (maxL := 4) (ret := none) (by decide) rfl ?_
  intro p e s m args below meth c s₁ B hml hv
  obtain ⟨rfl, hsz, hP, hK, hD0, hN⟩ := hv
  have hx := B.exec
  have hb := B.bytes
  have hr := B.returns
  have htw : ∀ w ∈ px_all, w.before _ s = true := fun w h => atoms_spec (ws := px_s65) B.pre w (List.mem_cons_of_mem _ h)
  have hown : s.vm.findClass "MatroidDeskModel" = some m.cls := findClass_of_methodNamed B.named
  have hlocks := B.notSynchronized
  subst hsz
  have hD := hD0.self (sz := s.heap.size)
  generalize hAe : va_A (([(h0, .inr (8, px_mf (px_rf hh rf) iv)), ((px_rf hh rf) 22, .inl (c_kept, 89856, .inl g_kept))] : va_W) ++ px_np hh qq cN nv) s.heap.size = A at hD ⊢
  have hA : ∀ q : Nat, s.heap.size ≤ q → A q := fun q h => by rw [← hAe]; exact Or.inr h
  have hS : va_S A s.heap s.heap [] := va_S.rf
  have hP : va_P (dC, dI) vwCl (([(h0, .inr (8, px_mf (px_rf hh rf) iv)), ((px_rf hh rf) 22, .inl (c_kept, 89856, .inl g_kept))] : va_W) ++ px_np hh qq cN nv) s.heap := hP
  have hl := lv_entry ([.ref h0, .ref (hh a1x), .int a2x]) (n := 4) (Nat.le_of_ble_eq_true rfl)
  rw [lg_entry_eq]
  generalize (lg_sl ([.ref h0, .ref (hh a1x), .int a2x]) ++ List.replicate (4 - (lg_sl ([.ref h0, .ref (hh a1x), .int a2x])).length) Slot.unset).toArray = ls at hl ⊢
  have hl : lv_has ls 4 [(0, .ref h0), (1, .ref (hh a1x)), (2, .int a2x)] := hl
  generalize hQ : MQ _ _ _ _ _ _ _ = Q
  have S49 : ∀ (k49 : Nat) (x2 : Int32) (x3 : Int32) (iv : Nat → Int32) (g_kept : Nat → Int32) (nv : Nat → px_NV) (H : Heap) (locs : List Loc) (ls : Array Slot), va_P (dC, dI) vwCl (([(h0, .inr (8, px_mf (px_rf hh rf) iv)), ((px_rf hh rf) 22, .inl (c_kept, 89856, .inl g_kept))] : va_W) ++ px_np hh qq cN nv) H → va_D A (([(h0, .inr (8, px_mf (px_rf hh rf) iv)), ((px_rf hh rf) 22, .inl (c_kept, 89856, .inl g_kept))] : va_W) ++ px_np hh qq cN nv) → va_S A s.heap H locs → lv_has ls 4 [(0, .ref h0), (1, .ref (hh a1x)), (2, .int x2), (3, .int x3)] → w65_L49 a1x post k49 x2 x3 iv g_kept nv → W p l e (headSpec px_s65 ({ frames := 0, cells := 0, slots := 0, locals := 0 })).room s m ([.ref h0, .ref (hh a1x), .int a2x]).toArray below meth c H locs 0 0 Q (F0 m 49 ls []) := by
    intro k49
    induction k49 with
    | zero => intro x2 x3 iv g_kept nv H locs ls hP hD hS hl hw; exact False.elim hw
    | succ k49 ih49 =>
      intro x2 x3 iv g_kept nv H locs ls hP hD hS hl hw
      unfold w65_L49 at hw
      refine lv_iload_n hx hb px_d65_49 rfl (lv_at hl 3 rfl) ?_
      refine lv_aload_n hx hb px_d65_50 rfl (lv_at hl 1 rfl) ?_
      obtain ⟨hp51, hw⟩ := hw
      refine va_get (D := (dC, dI)) (ci := 9) (v := .int ((nv a1x).1)) (C := "MatroidDeskModel$Num") (T := px_T9) (N := 3) hx hb htw px_in9 hown hK hP (2 + a1x) (px_go rfl hp51) rfl 1 (by decide) (htw _ px_w417) (fun _ h9 => h9) rfl px_d65_51 ?_
      refine lv_icmp_ge (tgt := 79) hx hb px_d65_54 (by decide) (fun c54 => ?_) (fun c54 => ?_)
      · have hw := hw.1 c54
        rw [← hQ]
        exact W.vret hx hb hr (fun t ht hW => ⟨⟨(iv, g_kept, nv), rfl, hw, by rw [ht]; exact hP, va_K.moved hW.alike hK, hD⟩, hS.F ht⟩) hS.2.2 px_d65_79
      · have hw := hw.2 c54
        refine lv_aload_n hx hb px_d65_57 rfl (lv_at hl 1 rfl) ?_
        obtain ⟨hp58, hw⟩ := hw
        refine va_get (D := (dC, dI)) (ci := 9) (v := .ref (qq a1x)) (C := "MatroidDeskModel$Num") (T := px_T9) (N := 3) hx hb htw px_in9 hown hK hP (2 + a1x) (px_go rfl hp58) rfl 0 (by decide) (htw _ px_w529) (fun _ h9 => h9) rfl px_d65_58 ?_
        refine lv_iload_n hx hb px_d65_61 rfl (lv_at hl 3 rfl) ?_
        refine lv_aload_n hx hb px_d65_62 rfl (lv_at hl 0 rfl) ?_
        refine va_get (D := (dC, dI)) (ci := 8) (v := .ref ((px_rf hh rf) 22)) (C := "MatroidDeskModel") (T := px_T8) (N := 53) hx hb htw px_in8 hown hK hP 0 rfl rfl 22 (by decide) (htw _ px_w506) (fun _ h9 => h9) rfl px_d65_63 ?_
        refine lv_iload_n hx hb px_d65_66 rfl (lv_at hl 2 rfl) ?_
        refine lv_iconst (v := 1) hx hb px_d65_67 (by decide) ?_
        refine lv_iadd hx hb px_d65_68 ?_
        refine lv_iload_n hx hb px_d65_69 rfl (lv_at hl 3 rfl) ?_
        refine lv_iadd hx hb px_d65_70 ?_
        obtain ⟨hi71, hw⟩ := hw
        refine va_iald hx hb hK hP 1 0 rfl rfl hi71 px_d65_71 ?_
        refine lv_topi (fun z1 ez1 => ?_)
        have hw := hw z1 ez1
        obtain ⟨hp72, hw⟩ := hw
        obtain ⟨hi72, hw⟩ := hw
        obtain ⟨nv2, env2⟩ : ∃ z : Nat → px_NV, z = va_up nv a1x ⟨(nv a1x).1, (nv a1x).2.1, upd (nv a1x).2.2 (Int32.toNatClampNeg x3) z1⟩ := ⟨_, rfl⟩
        refine va_iast hx hb hK hP hD hS (2 + (200 + a1x)) 1 (px_ga rfl hp72) rfl hi72 px_d65_72 (fun H locs hP hD hS => ?_)
        have hP : va_P (dC, dI) vwCl (([(h0, .inr (8, px_mf (px_rf hh rf) iv)), ((px_rf hh rf) 22, .inl (c_kept, 89856, .inl g_kept))] : va_W) ++ px_np hh qq cN nv2) H := px_saP rfl hp72 env2 hP
        have hD : va_D A (([(h0, .inr (8, px_mf (px_rf hh rf) iv)), ((px_rf hh rf) 22, .inl (c_kept, 89856, .inl g_kept))] : va_W) ++ px_np hh qq cN nv2) := px_saD rfl hp72 env2 hD
        have hw := hw nv2 env2
        obtain ⟨z3, ez3⟩ : ∃ y : Int32, y = x3 + 1 := ⟨_, rfl⟩
        have hw := hw z3 ez3
        refine lv_iinc (v := z3) (lv' := [(3, .int z3), (0, .ref h0), (1, .ref (hh a1x)), (2, .int x2)]) hx hb px_d65_73 hl (k := 3) rfl (by rw [ez3]; rfl) (by decide) rfl (fun ls hl => ?_)
        refine lv_goto (tgt := 49) hx hb px_d65_76 (by decide) ?_
        exact ih49 x2 z3 iv g_kept nv2 H locs ls hP hD hS (lv_sub hl [1, 2, 3, 0] rfl) hw
  have S44 : ∀ (x2 : Int32) (y0 : Int32) (iv : Nat → Int32) (g_kept : Nat → Int32) (nv : Nat → px_NV) (H : Heap) (locs : List Loc) (ls : Array Slot), va_P (dC, dI) vwCl (([(h0, .inr (8, px_mf (px_rf hh rf) iv)), ((px_rf hh rf) 22, .inl (c_kept, 89856, .inl g_kept))] : va_W) ++ px_np hh qq cN nv) H → va_D A (([(h0, .inr (8, px_mf (px_rf hh rf) iv)), ((px_rf hh rf) 22, .inl (c_kept, 89856, .inl g_kept))] : va_W) ++ px_np hh qq cN nv) → va_S A s.heap H locs → lv_has ls 4 [(0, .ref h0), (1, .ref (hh a1x)), (2, .int x2)] → w65_L44 a1x post x2 y0 iv g_kept nv → W p l e (headSpec px_s65 ({ frames := 0, cells := 0, slots := 0, locals := 0 })).room s m ([.ref h0, .ref (hh a1x), .int a2x]).toArray below meth c H locs 0 0 Q (F0 m 44 ls [.int y0, .ref (hh a1x)]) := by
    intro x2 y0 iv g_kept nv H locs ls hP hD hS hl hw
    unfold w65_L44 at hw
    obtain ⟨hp44, hw⟩ := hw
    obtain ⟨nv4, env4⟩ : ∃ z : Nat → px_NV, z = va_up nv a1x ⟨y0, (nv a1x).2.1, (nv a1x).2.2⟩ := ⟨_, rfl⟩
    refine va_put (D := (dC, dI)) (ci := 9) (v := .int y0) (ty := .int) (C := "MatroidDeskModel$Num") (T := px_T9) (N := 3) hx hb htw px_in9 px_ty9 px_tyok9 px_nm9 hown hK hP hD hS (2 + a1x) (px_go rfl hp44) rfl 1 (by decide) (htw _ px_w417) (fun _ h9 => h9) rfl (by decide +kernel) rfl rfl (Nat.le_of_ble_eq_true rfl) px_d65_44 (fun H locs hP hD hS => ?_)
    have hP : va_P (dC, dI) vwCl (([(h0, .inr (8, px_mf (px_rf hh rf) iv)), ((px_rf hh rf) 22, .inl (c_kept, 89856, .inl g_kept))] : va_W) ++ px_np hh qq cN nv4) H := px_soP rfl hp44 env4 hP
    have hD : va_D A (([(h0, .inr (8, px_mf (px_rf hh rf) iv)), ((px_rf hh rf) 22, .inl (c_kept, 89856, .inl g_kept))] : va_W) ++ px_np hh qq cN nv4) := px_soD rfl hp44 env4 hD
    have hw := hw nv4 env4
    refine lv_iconst (v := 0) hx hb px_d65_47 (by decide) ?_
    refine lv_istore_n (lv' := [(3, .int 0), (0, .ref h0), (1, .ref (hh a1x)), (2, .int x2)]) hx hb px_d65_48 rfl hl (by decide) rfl (fun ls hl => ?_)
    obtain ⟨k9, hw⟩ := hw
    exact S49 k9 x2 0 iv g_kept nv4 H locs ls hP hD hS (lv_sub hl [1, 2, 3, 0] rfl) hw
  have S15 : ∀ (x2 : Int32) (y0 : Int32) (iv : Nat → Int32) (g_kept : Nat → Int32) (nv : Nat → px_NV) (H : Heap) (locs : List Loc) (ls : Array Slot), va_P (dC, dI) vwCl (([(h0, .inr (8, px_mf (px_rf hh rf) iv)), ((px_rf hh rf) 22, .inl (c_kept, 89856, .inl g_kept))] : va_W) ++ px_np hh qq cN nv) H → va_D A (([(h0, .inr (8, px_mf (px_rf hh rf) iv)), ((px_rf hh rf) 22, .inl (c_kept, 89856, .inl g_kept))] : va_W) ++ px_np hh qq cN nv) → va_S A s.heap H locs → lv_has ls 4 [(0, .ref h0), (1, .ref (hh a1x)), (2, .int x2)] → w65_L15 a1x post x2 y0 iv g_kept nv → W p l e (headSpec px_s65 ({ frames := 0, cells := 0, slots := 0, locals := 0 })).room s m ([.ref h0, .ref (hh a1x), .int a2x]).toArray below meth c H locs 0 0 Q (F0 m 15 ls [.int y0, .ref (hh a1x)]) := by
    intro x2 y0 iv g_kept nv H locs ls hP hD hS hl hw
    unfold w65_L15 at hw
    obtain ⟨hp15, hw⟩ := hw
    obtain ⟨hz15, hw⟩ := hw
    obtain ⟨nv5, env5⟩ : ∃ z : Nat → px_NV, z = va_up nv a1x ⟨(nv a1x).1, y0, (nv a1x).2.2⟩ := ⟨_, rfl⟩
    refine va_put (D := (dC, dI)) (ci := 9) (v := .int y0) (ty := .boolean) (C := "MatroidDeskModel$Num") (T := px_T9) (N := 3) hx hb htw px_in9 px_ty9 px_tyok9 px_nm9 hown hK hP hD hS (2 + a1x) (px_go rfl hp15) rfl 2 (by decide) (htw _ px_w415) (fun _ h9 => h9) rfl (by decide +kernel) (hz15).1 (hz15).2 (Nat.le_of_ble_eq_true rfl) px_d65_15 (fun H locs hP hD hS => ?_)
    have hP : va_P (dC, dI) vwCl (([(h0, .inr (8, px_mf (px_rf hh rf) iv)), ((px_rf hh rf) 22, .inl (c_kept, 89856, .inl g_kept))] : va_W) ++ px_np hh qq cN nv5) H := px_soP rfl hp15 env5 hP
    have hD : va_D A (([(h0, .inr (8, px_mf (px_rf hh rf) iv)), ((px_rf hh rf) 22, .inl (c_kept, 89856, .inl g_kept))] : va_W) ++ px_np hh qq cN nv5) := px_soD rfl hp15 env5 hD
    have hw := hw nv5 env5
    refine lv_aload_n hx hb px_d65_18 rfl (lv_at hl 1 rfl) ?_
    refine lv_aload_n hx hb px_d65_19 rfl (lv_at hl 0 rfl) ?_
    refine va_get (D := (dC, dI)) (ci := 8) (v := .ref ((px_rf hh rf) 22)) (C := "MatroidDeskModel") (T := px_T8) (N := 53) hx hb htw px_in8 hown hK hP 0 rfl rfl 22 (by decide) (htw _ px_w506) (fun _ h9 => h9) rfl px_d65_20 ?_
    refine lv_iload_n hx hb px_d65_23 rfl (lv_at hl 2 rfl) ?_
    obtain ⟨hi24, hw⟩ := hw
    refine va_iald hx hb hK hP 1 0 rfl rfl hi24 px_d65_24 ?_
    refine lv_if_ge (tgt := 38) hx hb px_d65_25 (by decide) (fun c25 => ?_) (fun c25 => ?_)
    · have hw := hw.1 c25
      refine lv_aload_n hx hb px_d65_38 rfl (lv_at hl 0 rfl) ?_
      refine va_get (D := (dC, dI)) (ci := 8) (v := .ref ((px_rf hh rf) 22)) (C := "MatroidDeskModel") (T := px_T8) (N := 53) hx hb htw px_in8 hown hK hP 0 rfl rfl 22 (by decide) (htw _ px_w506) (fun _ h9 => h9) rfl px_d65_39 ?_
      refine lv_iload_n hx hb px_d65_42 rfl (lv_at hl 2 rfl) ?_
      obtain ⟨hi43, hw⟩ := hw
      refine va_iald hx hb hK hP 1 0 rfl rfl hi43 px_d65_43 ?_
      exact S44 x2 (g_kept (Int32.toNatClampNeg x2)) iv g_kept nv5 H locs ls hP hD hS (lv_sub hl [0, 1, 2] rfl) hw
    · have hw := hw.2 c25
      refine lv_aload_n hx hb px_d65_28 rfl (lv_at hl 0 rfl) ?_
      refine va_get (D := (dC, dI)) (ci := 8) (v := .ref ((px_rf hh rf) 22)) (C := "MatroidDeskModel") (T := px_T8) (N := 53) hx hb htw px_in8 hown hK hP 0 rfl rfl 22 (by decide) (htw _ px_w506) (fun _ h9 => h9) rfl px_d65_29 ?_
      refine lv_iload_n hx hb px_d65_32 rfl (lv_at hl 2 rfl) ?_
      obtain ⟨hi33, hw⟩ := hw
      refine va_iald hx hb hK hP 1 0 rfl rfl hi33 px_d65_33 ?_
      refine lv_ineg hx hb px_d65_34 ?_
      refine lv_goto (tgt := 44) hx hb px_d65_35 (by decide) ?_
      exact S44 x2 (-(g_kept (Int32.toNatClampNeg x2))) iv g_kept nv5 H locs ls hP hD hS (lv_sub hl [0, 1, 2] rfl) hw
  unfold w65_wp at hw
  have hS0 := hS
  obtain ⟨H, hH9⟩ : ∃ z, z = s.heap := ⟨_, rfl⟩
  have hP : va_P (dC, dI) vwCl (([(h0, .inr (8, px_mf (px_rf hh rf) iv)), ((px_rf hh rf) 22, .inl (c_kept, 89856, .inl g_kept))] : va_W) ++ px_np hh qq cN nv) H := by rw [hH9]; exact hP
  obtain ⟨locs, hlo9⟩ : ∃ z : List Loc, z = [] := ⟨_, rfl⟩
  have hS : va_S A s.heap H locs := by rw [hH9, hlo9]; exact hS
  suffices hG : W p l e (headSpec px_s65 ({ frames := 0, cells := 0, slots := 0, locals := 0 })).room s m ([.ref h0, .ref (hh a1x), .int a2x]).toArray below meth c H locs 0 0 Q (F0 m 0 ls []) by rw [hH9, hlo9] at hG; exact hG
  refine lv_aload_n hx hb px_d65_0 rfl (lv_at hl 1 rfl) ?_
  refine lv_aload_n hx hb px_d65_1 rfl (lv_at hl 0 rfl) ?_
  refine va_get (D := (dC, dI)) (ci := 8) (v := .ref ((px_rf hh rf) 22)) (C := "MatroidDeskModel") (T := px_T8) (N := 53) hx hb htw px_in8 hown hK hP 0 rfl rfl 22 (by decide) (htw _ px_w506) (fun _ h9 => h9) rfl px_d65_2 ?_
  refine lv_iload_n hx hb px_d65_5 rfl (lv_at hl 2 rfl) ?_
  obtain ⟨hi6, hw⟩ := hw
  refine va_iald hx hb hK hP 1 0 rfl rfl hi6 px_d65_6 ?_
  refine lv_if_ge (tgt := 14) hx hb px_d65_7 (by decide) (fun c7 => ?_) (fun c7 => ?_)
  · have hw := hw.1 c7
    refine lv_iconst (v := 0) hx hb px_d65_14 (by decide) ?_
    exact S15 a2x 0 iv g_kept nv H locs ls hP hD hS (lv_sub hl [0, 1, 2] rfl) hw
  · have hw := hw.2 c7
    refine lv_iconst (v := 1) hx hb px_d65_10 (by decide) ?_
    refine lv_goto (tgt := 15) hx hb px_d65_11 (by decide) ?_
    exact S15 a2x 1 iv g_kept nv H locs ls hP hD hS (lv_sub hl [0, 1, 2] rfl) hw

/-! MatroidDeskModel.cell(IIIII)V -/
def w68_L58 (post : (Nat → Int32) → (Nat → Int32) → (Nat → Int32) → (Nat → Int32) → (Nat → px_NV) → Prop) (x1 : Int32) (x2 : Int32) (x3 : Int32) (x4 : Int32) (x5 : Int32) (x6 : Int32) (iv : Nat → Int32) (g_small : Nat → Int32) (g_kept : Nat → Int32) (g_keptSmall : Nat → Int32) (nv : Nat → px_NV) : Prop := post iv g_small g_kept g_keptSmall nv
def w68_wp (post : (Nat → Int32) → (Nat → Int32) → (Nat → Int32) → (Nat → Int32) → (Nat → px_NV) → Prop) (a1x : Int32) (a2x : Int32) (a3x : Int32) (a4x : Int32) (a5x : Int32) (iv : Nat → Int32) (g_small : Nat → Int32) (g_kept : Nat → Int32) (g_keptSmall : Nat → Int32) (nv : Nat → px_NV) : Prop := ∀ z1 : Int32, z1 = ((144 * a1x) + (12 * a2x)) + a3x → vp_in z1 3744 ∧ (∀ z2 : Int32, z2 = g_keptSmall (Int32.toNatClampNeg z1) → vp_in ((12 * a4x) + a5x) 156 ∧ ((¬ (iv 12) = 0 → w68_L58 post a1x a2x a3x a4x a5x z1 iv (upd g_small (Int32.toNatClampNeg ((12 * a4x) + a5x)) z2) g_kept g_keptSmall nv) ∧ ((iv 12) = 0 → (w47_wp (fun k47_4 v3 => (w65_wp k47_4 (fun v5 v6 v7 => w68_L58 post a1x a2x a3x a4x a5x z1 v5 (upd g_small (Int32.toNatClampNeg ((12 * a4x) + a5x)) z2) v6 g_keptSmall v7) (24 * z1) v3 g_kept nv)) a4x a5x iv))))
set_option maxHeartbeats 8000000 in
set_option maxRecDepth 100000 in
theorem w68_met (l : Launch) (dC : Nat → ClassId) (dI : Nat → Nat → Nat) (sz : Nat) (h0 : Nat) (rf : Nat → Nat) (hh : Nat → Nat) (qq : Nat → Nat) (cN : ClassId) (c_work : ClassId) (c_small : ClassId) (c_kept : ClassId) (c_keptSmall : ClassId) (a1x : Int32) (a2x : Int32) (a3x : Int32) (a4x : Int32) (a5x : Int32) (iv : Nat → Int32) (g_small : Nat → Int32) (g_kept : Nat → Int32) (g_keptSmall : Nat → Int32) (nv : Nat → px_NV) (post : (Nat → Int32) → (Nat → Int32) → (Nat → Int32) → (Nat → Int32) → (Nat → px_NV) → Prop) (hw : w68_wp post a1x a2x a3x a4x a5x iv g_small g_kept g_keptSmall nv) : Met l px_y68 px_s68 ({ frames := 1, cells := 0, slots := 0, locals := 23 }) (va_Pc [.ref h0, .int a1x, .int a2x, .int a3x, .int a4x, .int a5x] (fun U => U.heap.size = sz ∧ va_P (dC, dI) vwCl (([(h0, .inr (8, px_mf (px_rf hh rf) iv)), ((px_rf hh rf) 8, .inl (c_work, 156, .inr (.inr (.inr (.inr (fun k => some (hh k))))))), ((px_rf hh rf) 9, .inl (c_small, 156, .inl g_small)), ((px_rf hh rf) 22, .inl (c_kept, 89856, .inl g_kept)), ((px_rf hh rf) 23, .inl (c_keptSmall, 3744, .inl g_keptSmall))] : va_W) ++ px_np hh qq cN nv) U.heap ∧ va_K (dC, dI) vwCl [(c_work, .object "MatroidDeskModel$Num"), (c_small, .int), (c_kept, .int), (c_keptSmall, .int), (cN, .int)] U ∧ va_D (fun _ => True) (([(h0, .inr (8, px_mf (px_rf hh rf) iv)), ((px_rf hh rf) 8, .inl (c_work, 156, .inr (.inr (.inr (.inr (fun k => some (hh k))))))), ((px_rf hh rf) 9, .inl (c_small, 156, .inl g_small)), ((px_rf hh rf) 22, .inl (c_kept, 89856, .inl g_kept)), ((px_rf hh rf) 23, .inl (c_keptSmall, 3744, .inl g_keptSmall))] : va_W) ++ px_np hh qq cN nv) ∧ px_N U)) (va_Qv (fun (u : (Nat → Int32) × (Nat → Int32) × (Nat → Int32) × (Nat → Int32) × (Nat → px_NV)) => post u.1 u.2.1 u.2.2.1 u.2.2.2.1 u.2.2.2.2) (fun (u : (Nat → Int32) × (Nat → Int32) × (Nat → Int32) × (Nat → Int32) × (Nat → px_NV)) (t : State) => va_P (dC, dI) vwCl (([(h0, .inr (8, px_mf (px_rf hh rf) u.1)), ((px_rf hh rf) 8, .inl (c_work, 156, .inr (.inr (.inr (.inr (fun k => some (hh k))))))), ((px_rf hh rf) 9, .inl (c_small, 156, .inl u.2.1)), ((px_rf hh rf) 22, .inl (c_kept, 89856, .inl u.2.2.1)), ((px_rf hh rf) 23, .inl (c_keptSmall, 3744, .inl u.2.2.2.1))] : va_W) ++ px_np hh qq cN u.2.2.2.2) t.heap ∧ va_K (dC, dI) vwCl [(c_work, .object "MatroidDeskModel$Num"), (c_small, .int), (c_kept, .int), (c_keptSmall, .int), (cN, .int)] t ∧ va_D (va_A (([(h0, .inr (8, px_mf (px_rf hh rf) iv)), ((px_rf hh rf) 8, .inl (c_work, 156, .inr (.inr (.inr (.inr (fun k => some (hh k))))))), ((px_rf hh rf) 9, .inl (c_small, 156, .inl g_small)), ((px_rf hh rf) 22, .inl (c_kept, 89856, .inl g_kept)), ((px_rf hh rf) 23, .inl (c_keptSmall, 3744, .inl g_keptSmall))] : va_W) ++ px_np hh qq cN nv) sz) (([(h0, .inr (8, px_mf (px_rf hh rf) u.1)), ((px_rf hh rf) 8, .inl (c_work, 156, .inr (.inr (.inr (.inr (fun k => some (hh k))))))), ((px_rf hh rf) 9, .inl (c_small, 156, .inl u.2.1)), ((px_rf hh rf) 22, .inl (c_kept, 89856, .inl u.2.2.1)), ((px_rf hh rf) 23, .inl (c_keptSmall, 3744, .inl u.2.2.2.1))] : va_W) ++ px_np hh qq cN u.2.2.2.2)) (va_A (([(h0, .inr (8, px_mf (px_rf hh rf) iv)), ((px_rf hh rf) 8, .inl (c_work, 156, .inr (.inr (.inr (.inr (fun k => some (hh k))))))), ((px_rf hh rf) 9, .inl (c_small, 156, .inl g_small)), ((px_rf hh rf) 22, .inl (c_kept, 89856, .inl g_kept)), ((px_rf hh rf) 23, .inl (c_keptSmall, 3744, .inl g_keptSmall))] : va_W) ++ px_np hh qq cN nv) sz)) 0 0 (va_A (([(h0, .inr (8, px_mf (px_rf hh rf) iv)), ((px_rf hh rf) 8, .inl (c_work, 156, .inr (.inr (.inr (.inr (fun k => some (hh k))))))), ((px_rf hh rf) 9, .inl (c_small, 156, .inl g_small)), ((px_rf hh rf) 22, .inl (c_kept, 89856, .inl g_kept)), ((px_rf hh rf) 23, .inl (c_keptSmall, 3744, .inl g_keptSmall))] : va_W) ++ px_np hh qq cN nv) sz) := by
  refine Met.ofW (cc := prog_15_method_23_code) (maxL := 7) (ret := none) (by decide) rfl ?_
  intro p e s m args below meth c s₁ B hml hv
  obtain ⟨rfl, hsz, hP, hK, hD0, hN⟩ := hv
  have hx := B.exec
  have hb := B.bytes
  have hr := B.returns
  have htw : ∀ w ∈ px_all, w.before _ s = true := fun w h => atoms_spec (ws := px_s68) B.pre w (List.mem_cons_of_mem _ h)
  have hown : s.vm.findClass "MatroidDeskModel" = some m.cls := findClass_of_methodNamed B.named
  have hlocks := B.notSynchronized
  subst hsz
  have hD := hD0.self (sz := s.heap.size)
  generalize hAe : va_A (([(h0, .inr (8, px_mf (px_rf hh rf) iv)), ((px_rf hh rf) 8, .inl (c_work, 156, .inr (.inr (.inr (.inr (fun k => some (hh k))))))), ((px_rf hh rf) 9, .inl (c_small, 156, .inl g_small)), ((px_rf hh rf) 22, .inl (c_kept, 89856, .inl g_kept)), ((px_rf hh rf) 23, .inl (c_keptSmall, 3744, .inl g_keptSmall))] : va_W) ++ px_np hh qq cN nv) s.heap.size = A at hD ⊢
  have hA : ∀ q : Nat, s.heap.size ≤ q → A q := fun q h => by rw [← hAe]; exact Or.inr h
  have hS : va_S A s.heap s.heap [] := va_S.rf
  have hP : va_P (dC, dI) vwCl (([(h0, .inr (8, px_mf (px_rf hh rf) iv)), ((px_rf hh rf) 8, .inl (c_work, 156, .inr (.inr (.inr (.inr (fun k => some (hh k))))))), ((px_rf hh rf) 9, .inl (c_small, 156, .inl g_small)), ((px_rf hh rf) 22, .inl (c_kept, 89856, .inl g_kept)), ((px_rf hh rf) 23, .inl (c_keptSmall, 3744, .inl g_keptSmall))] : va_W) ++ px_np hh qq cN nv) s.heap := hP
  have hl := lv_entry ([.ref h0, .int a1x, .int a2x, .int a3x, .int a4x, .int a5x]) (n := 7) (Nat.le_of_ble_eq_true rfl)
  rw [lg_entry_eq]
  generalize (lg_sl ([.ref h0, .int a1x, .int a2x, .int a3x, .int a4x, .int a5x]) ++ List.replicate (7 - (lg_sl ([.ref h0, .int a1x, .int a2x, .int a3x, .int a4x, .int a5x])).length) Slot.unset).toArray = ls at hl ⊢
  have hl : lv_has ls 7 [(0, .ref h0), (1, .int a1x), (2, .int a2x), (3, .int a3x), (4, .int a4x), (5, .int a5x)] := hl
  generalize hQ : MQ _ _ _ _ _ _ _ = Q
  have S58 : ∀ (x1 : Int32) (x2 : Int32) (x3 : Int32) (x4 : Int32) (x5 : Int32) (x6 : Int32) (iv : Nat → Int32) (g_small : Nat → Int32) (g_kept : Nat → Int32) (g_keptSmall : Nat → Int32) (nv : Nat → px_NV) (H : Heap) (locs : List Loc) (ls : Array Slot), va_P (dC, dI) vwCl (([(h0, .inr (8, px_mf (px_rf hh rf) iv)), ((px_rf hh rf) 8, .inl (c_work, 156, .inr (.inr (.inr (.inr (fun k => some (hh k))))))), ((px_rf hh rf) 9, .inl (c_small, 156, .inl g_small)), ((px_rf hh rf) 22, .inl (c_kept, 89856, .inl g_kept)), ((px_rf hh rf) 23, .inl (c_keptSmall, 3744, .inl g_keptSmall))] : va_W) ++ px_np hh qq cN nv) H → va_D A (([(h0, .inr (8, px_mf (px_rf hh rf) iv)), ((px_rf hh rf) 8, .inl (c_work, 156, .inr (.inr (.inr (.inr (fun k => some (hh k))))))), ((px_rf hh rf) 9, .inl (c_small, 156, .inl g_small)), ((px_rf hh rf) 22, .inl (c_kept, 89856, .inl g_kept)), ((px_rf hh rf) 23, .inl (c_keptSmall, 3744, .inl g_keptSmall))] : va_W) ++ px_np hh qq cN nv) → va_S A s.heap H locs → lv_has ls 7 [(0, .ref h0), (1, .int x1), (2, .int x2), (3, .int x3), (4, .int x4), (5, .int x5), (6, .int x6)] → w68_L58 post x1 x2 x3 x4 x5 x6 iv g_small g_kept g_keptSmall nv → W p l e (headSpec px_s68 ({ frames := 1, cells := 0, slots := 0, locals := 23 })).room s m ([.ref h0, .int a1x, .int a2x, .int a3x, .int a4x, .int a5x]).toArray below meth c H locs 0 0 Q (F0 m 58 ls []) := by
    intro x1 x2 x3 x4 x5 x6 iv g_small g_kept g_keptSmall nv H locs ls hP hD hS hl hw
    unfold w68_L58 at hw
    rw [← hQ]
    exact W.vret hx hb hr (fun t ht hW => ⟨⟨(iv, g_small, g_kept, g_keptSmall, nv), rfl, hw, by rw [ht]; exact hP, va_K.moved hW.alike hK, hD⟩, hS.F ht⟩) hS.2.2 px_d68_58
  unfold w68_wp at hw
  have hS0 := hS
  obtain ⟨H, hH9⟩ : ∃ z, z = s.heap := ⟨_, rfl⟩
  have hP : va_P (dC, dI) vwCl (([(h0, .inr (8, px_mf (px_rf hh rf) iv)), ((px_rf hh rf) 8, .inl (c_work, 156, .inr (.inr (.inr (.inr (fun k => some (hh k))))))), ((px_rf hh rf) 9, .inl (c_small, 156, .inl g_small)), ((px_rf hh rf) 22, .inl (c_kept, 89856, .inl g_kept)), ((px_rf hh rf) 23, .inl (c_keptSmall, 3744, .inl g_keptSmall))] : va_W) ++ px_np hh qq cN nv) H := by rw [hH9]; exact hP
  obtain ⟨locs, hlo9⟩ : ∃ z : List Loc, z = [] := ⟨_, rfl⟩
  have hS : va_S A s.heap H locs := by rw [hH9, hlo9]; exact hS
  suffices hG : W p l e (headSpec px_s68 ({ frames := 1, cells := 0, slots := 0, locals := 23 })).room s m ([.ref h0, .int a1x, .int a2x, .int a3x, .int a4x, .int a5x]).toArray below meth c H locs 0 0 Q (F0 m 0 ls []) by rw [hH9, hlo9] at hG; exact hG
  refine lv_sipush (v := 144) hx hb px_d68_0 (by decide) ?_
  refine lv_iload_n hx hb px_d68_3 rfl (lv_at hl 1 rfl) ?_
  refine lv_imul hx hb px_d68_4 ?_
  refine lv_bipush (v := 12) hx hb px_d68_5 (by decide) ?_
  refine lv_iload_n hx hb px_d68_7 rfl (lv_at hl 2 rfl) ?_
  refine lv_imul hx hb px_d68_8 ?_
  refine lv_iadd hx hb px_d68_9 ?_
  refine lv_iload_n hx hb px_d68_10 rfl (lv_at hl 3 rfl) ?_
  refine lv_iadd hx hb px_d68_11 ?_
  refine lv_topi (fun z1 ez1 => ?_)
  have hw := hw z1 ez1
  refine lv_istore (lv' := [(6, .int z1), (0, .ref h0), (1, .int a1x), (2, .int a2x), (3, .int a3x), (4, .int a4x), (5, .int a5x)]) hx hb px_d68_12 hl (by decide) rfl (fun ls hl => ?_)
  refine lv_aload_n hx hb px_d68_14 rfl (lv_at hl 1 rfl) ?_
  refine va_get (D := (dC, dI)) (ci := 8) (v := .ref ((px_rf hh rf) 9)) (C := "MatroidDeskModel") (T := px_T8) (N := 53) hx hb htw px_in8 hown hK hP 0 rfl rfl 9 (by decide) (htw _ px_w436) (fun _ h9 => h9) rfl px_d68_15 ?_
  refine lv_bipush (v := 12) hx hb px_d68_18 (by decide) ?_
  refine lv_iload hx hb px_d68_20 (lv_at hl 5 rfl) ?_
  refine lv_imul hx hb px_d68_22 ?_
  refine lv_iload hx hb px_d68_23 (lv_at hl 6 rfl) ?_
  refine lv_iadd hx hb px_d68_25 ?_
  refine lv_aload_n hx hb px_d68_26 rfl (lv_at hl 1 rfl) ?_
  refine va_get (D := (dC, dI)) (ci := 8) (v := .ref ((px_rf hh rf) 23)) (C := "MatroidDeskModel") (T := px_T8) (N := 53) hx hb htw px_in8 hown hK hP 0 rfl rfl 23 (by decide) (htw _ px_w507) (fun _ h9 => h9) rfl px_d68_27 ?_
  refine lv_iload hx hb px_d68_30 (lv_at hl 0 rfl) ?_
  obtain ⟨hi32, hw⟩ := hw
  refine va_iald hx hb hK hP 4 3 rfl rfl hi32 px_d68_32 ?_
  refine lv_topi (fun z2 ez2 => ?_)
  have hw := hw z2 ez2
  obtain ⟨hi33, hw⟩ := hw
  refine va_iast hx hb hK hP hD hS 2 1 rfl rfl hi33 px_d68_33 (fun H locs hP hD hS => ?_)
  have hP : va_P (dC, dI) vwCl (([(h0, .inr (8, px_mf (px_rf hh rf) iv)), ((px_rf hh rf) 8, .inl (c_work, 156, .inr (.inr (.inr (.inr (fun k => some (hh k))))))), ((px_rf hh rf) 9, .inl (c_small, 156, .inl (upd g_small (Int32.toNatClampNeg ((12 * a4x) + a5x)) z2))), ((px_rf hh rf) 22, .inl (c_kept, 89856, .inl g_kept)), ((px_rf hh rf) 23, .inl (c_keptSmall, 3744, .inl g_keptSmall))] : va_W) ++ px_np hh qq cN nv) H := hP
  have hD : va_D A (([(h0, .inr (8, px_mf (px_rf hh rf) iv)), ((px_rf hh rf) 8, .inl (c_work, 156, .inr (.inr (.inr (.inr (fun k => some (hh k))))))), ((px_rf hh rf) 9, .inl (c_small, 156, .inl (upd g_small (Int32.toNatClampNeg ((12 * a4x) + a5x)) z2))), ((px_rf hh rf) 22, .inl (c_kept, 89856, .inl g_kept)), ((px_rf hh rf) 23, .inl (c_keptSmall, 3744, .inl g_keptSmall))] : va_W) ++ px_np hh qq cN nv) := hD
  refine lv_aload_n hx hb px_d68_34 rfl (lv_at hl 1 rfl) ?_
  refine va_get (D := (dC, dI)) (ci := 8) (v := .int (iv 12)) (C := "MatroidDeskModel") (T := px_T8) (N := 53) hx hb htw px_in8 hown hK hP 0 rfl rfl 12 (by decide) (htw _ px_w428) (fun _ h9 => h9) rfl px_d68_35 ?_
  refine lv_if_ne (tgt := 58) hx hb px_d68_38 (by decide) (fun c38 => ?_) (fun c38 => ?_)
  · have hw := hw.1 c38
    exact S58 a1x a2x a3x a4x a5x z1 iv (upd g_small (Int32.toNatClampNeg ((12 * a4x) + a5x)) z2) g_kept g_keptSmall nv H locs ls hP hD hS (lv_sub hl [1, 2, 3, 4, 5, 6, 0] rfl) hw
  · have hw := hw.2 c38
    refine lv_aload_n hx hb px_d68_41 rfl (lv_at hl 1 rfl) ?_
    refine lv_aload_n hx hb px_d68_42 rfl (lv_at hl 1 rfl) ?_
    refine lv_iload hx hb px_d68_43 (lv_at hl 5 rfl) ?_
    refine lv_iload hx hb px_d68_45 (lv_at hl 6 rfl) ?_
    have hPc := hP.sub (ws' := [(h0, .inr (8, px_mf (px_rf hh rf) iv)), ((px_rf hh rf) 8, .inl (c_work, 156, .inr (.inr (.inr (.inr (fun k => some (hh k)))))))]) [0, 1] rfl
    have hDc := hD.sub (ws' := [(h0, .inr (8, px_mf (px_rf hh rf) iv)), ((px_rf hh rf) 8, .inl (c_work, 156, .inr (.inr (.inr (.inr (fun k => some (hh k)))))))]) [0, 1] (by decide) rfl
    have hFc := va_free (wc := [(h0, .inr (8, px_mf (px_rf hh rf) iv)), ((px_rf hh rf) 8, .inl (c_work, 156, .inr (.inr (.inr (.inr (fun k => some (hh k)))))))]) hD hS hA [0, 1] rfl
    have hKc := hK.sub (tys' := [(c_work, .object "MatroidDeskModel$Num")]) [0] rfl
    refine va_callq (va_runV (As := [.int a4x, .int a5x]) (rest := [.ref h0]) ⟨hx, hb, hml, hown, htw⟩ (w47_met l dC dI H.size h0 rf hh c_work a4x a5x iv _ hw) (cwV 2 htw (px_gv px_w434 px_w422 px_w423 px_w94 px_g47) rfl rfl rfl (by decide +kernel) ⟨Nat.le_of_ble_eq_true rfl, Nat.le_of_ble_eq_true rfl⟩) ⟨fun a U g mk q => by obtain ⟨q0, q1, qP, qK, qD, qN⟩ := q; exact ⟨q0, q1, qP, va_K.moved (u := U) (U := U.calling g mk a) (Vm.Alike.refl U.vm) qK, qD, qN.same rfl⟩, va_recv hK hP (ci := 8) (q0 := 0) rfl rfl, fun U hU hW => ⟨rfl, by rw [hU], by rw [hU]; exact hPc, va_K.moved hW.alike hKc, hDc.weaken (fun _ _ _ _ => trivial), hN.warm hW⟩⟩ rfl rfl hl.1 rfl (lv_room (Nat.le_of_ble_eq_true rfl)) px_d68_47 ⟨(Nat.le_of_ble_eq_true rfl), (Nat.le_of_ble_eq_true rfl)⟩) hS (fun q _ h => hFc q h) hFc (fun r9 u t H1 locs ht hvm hw hB hz1 hk1 hS => ?_)
    obtain ⟨k47_4, v3⟩ := u
    obtain ⟨hr9, hw⟩ := hw
    subst hr9
    obtain ⟨hP1, hK1, hD1⟩ := hB
    rw [ht] at hP1
    obtain ⟨hP, hD⟩ := va_joinQ (wr := [((px_rf hh rf) 9, .inl (c_small, 156, .inl (upd g_small (Int32.toNatClampNeg ((12 * a4x) + a5x)) z2))), ((px_rf hh rf) 22, .inl (c_kept, 89856, .inl g_kept)), ((px_rf hh rf) 23, .inl (c_keptSmall, 3744, .inl g_keptSmall))]) (w1 := [(h0, .inr (8, px_mf (px_rf hh rf) v3)), ((px_rf hh rf) 8, .inl (c_work, 156, .inr (.inr (.inr (.inr (fun k => some (hh k)))))))]) hP hD [0, 1] [2, 3, 4] rfl rfl (by decide) (by decide) hk1 hFc hP1 hD1
    generalize H1 = H at hP hS ⊢
    have hP : va_P (dC, dI) vwCl (([((px_rf hh rf) 9, .inl (c_small, 156, .inl (upd g_small (Int32.toNatClampNeg ((12 * a4x) + a5x)) z2))), ((px_rf hh rf) 22, .inl (c_kept, 89856, .inl g_kept)), ((px_rf hh rf) 23, .inl (c_keptSmall, 3744, .inl g_keptSmall)), (h0, .inr (8, px_mf (px_rf hh rf) v3)), ((px_rf hh rf) 8, .inl (c_work, 156, .inr (.inr (.inr (.inr (fun k => some (hh k)))))))] : va_W) ++ px_np hh qq cN nv) H := hP
    have hD : va_D A (([((px_rf hh rf) 9, .inl (c_small, 156, .inl (upd g_small (Int32.toNatClampNeg ((12 * a4x) + a5x)) z2))), ((px_rf hh rf) 22, .inl (c_kept, 89856, .inl g_kept)), ((px_rf hh rf) 23, .inl (c_keptSmall, 3744, .inl g_keptSmall)), (h0, .inr (8, px_mf (px_rf hh rf) v3)), ((px_rf hh rf) 8, .inl (c_work, 156, .inr (.inr (.inr (.inr (fun k => some (hh k)))))))] : va_W) ++ px_np hh qq cN nv) := hD
    refine W.eq (g2 := F0 m 50 ls (.ref (hh k47_4) :: [.ref h0])) rfl ?_
    have hP := hP.part (cx := [(h0, .inr (8, px_mf (px_rf hh rf) v3)), ((px_rf hh rf) 8, .inl (c_work, 156, .inr (.inr (.inr (.inr (fun k => some (hh k))))))), ((px_rf hh rf) 9, .inl (c_small, 156, .inl (upd g_small (Int32.toNatClampNeg ((12 * a4x) + a5x)) z2))), ((px_rf hh rf) 22, .inl (c_kept, 89856, .inl g_kept)), ((px_rf hh rf) 23, .inl (c_keptSmall, 3744, .inl g_keptSmall))]) [3, 4, 0, 1, 2] rfl
    have hD := hD.part (cx := [(h0, .inr (8, px_mf (px_rf hh rf) v3)), ((px_rf hh rf) 8, .inl (c_work, 156, .inr (.inr (.inr (.inr (fun k => some (hh k))))))), ((px_rf hh rf) 9, .inl (c_small, 156, .inl (upd g_small (Int32.toNatClampNeg ((12 * a4x) + a5x)) z2))), ((px_rf hh rf) 22, .inl (c_kept, 89856, .inl g_kept)), ((px_rf hh rf) 23, .inl (c_keptSmall, 3744, .inl g_keptSmall))]) [3, 4, 0, 1, 2] (by decide) rfl
    refine lv_bipush (v := 24) hx hb px_d68_50 (by decide) ?_
    refine lv_iload hx hb px_d68_52 (lv_at hl 0 rfl) ?_
    refine lv_imul hx hb px_d68_54 ?_
    have hPc := hP.part (cx := [(h0, .inr (8, px_mf (px_rf hh rf) v3)), ((px_rf hh rf) 22, .inl (c_kept, 89856, .inl g_kept))]) [0, 3] rfl
    have hDc := hD.part (cx := [(h0, .inr (8, px_mf (px_rf hh rf) v3)), ((px_rf hh rf) 22, .inl (c_kept, 89856, .inl g_kept))]) [0, 3] (by decide) rfl
    have hFc := va_freeP (cx := [(h0, .inr (8, px_mf (px_rf hh rf) v3)), ((px_rf hh rf) 22, .inl (c_kept, 89856, .inl g_kept))]) hD hS hA [0, 3] rfl
    have hKc := hK.sub (tys' := [(c_kept, .int), (cN, .int)]) [2, 4] rfl
    refine va_callv (va_runV (As := [.ref (hh k47_4), .int (24 * z1)]) (rest := []) ⟨hx, hb, hml, hown, htw⟩ (w65_met l dC dI H.size h0 rf hh qq cN k47_4 c_kept (24 * z1) v3 g_kept nv _ hw) (cwV 2 htw (px_gv px_w547 px_w531 px_w532 px_w94 px_g65) rfl rfl rfl (by decide +kernel) ⟨Nat.le_of_ble_eq_true rfl, Nat.le_of_ble_eq_true rfl⟩) ⟨fun a U g mk q => by obtain ⟨q0, q1, qP, qK, qD, qN⟩ := q; exact ⟨q0, q1, qP, va_K.moved (u := U) (U := U.calling g mk a) (Vm.Alike.refl U.vm) qK, qD, qN.same rfl⟩, va_recv hK hP (ci := 8) (q0 := 0) rfl rfl, fun U hU hW => ⟨rfl, by rw [hU], by rw [hU]; exact hPc, va_K.moved hW.alike hKc, hDc.weaken (fun _ _ _ _ => trivial), hN.warm hW⟩⟩ rfl rfl hl.1 rfl (lv_room (Nat.le_of_ble_eq_true rfl)) px_d68_55 ⟨(Nat.le_of_ble_eq_true rfl), (Nat.le_of_ble_eq_true rfl)⟩) hS (fun q _ h => hFc q h) hFc (fun u t H1 locs ht hvm hw hB hz1 hk1 hS => ?_)
    obtain ⟨v5, v6, v7⟩ := u
    obtain ⟨hP1, hK1, hD1⟩ := hB
    rw [ht] at hP1
    obtain ⟨hP, hD⟩ := va_joinP (wr := [((px_rf hh rf) 8, .inl (c_work, 156, .inr (.inr (.inr (.inr (fun k => some (hh k))))))), ((px_rf hh rf) 9, .inl (c_small, 156, .inl (upd g_small (Int32.toNatClampNeg ((12 * a4x) + a5x)) z2))), ((px_rf hh rf) 23, .inl (c_keptSmall, 3744, .inl g_keptSmall))]) (rx := [(h0, .inr (8, px_mf (px_rf hh rf) v5)), ((px_rf hh rf) 22, .inl (c_kept, 89856, .inl v6))]) hP hD [0, 3] [1, 2, 4] rfl rfl (by decide) (by decide) hk1 hFc hP1 hD1
    generalize H1 = H at hP hS ⊢
    have hP : va_P (dC, dI) vwCl (([((px_rf hh rf) 8, .inl (c_work, 156, .inr (.inr (.inr (.inr (fun k => some (hh k))))))), ((px_rf hh rf) 9, .inl (c_small, 156, .inl (upd g_small (Int32.toNatClampNeg ((12 * a4x) + a5x)) z2))), ((px_rf hh rf) 23, .inl (c_keptSmall, 3744, .inl g_keptSmall)), (h0, .inr (8, px_mf (px_rf hh rf) v5)), ((px_rf hh rf) 22, .inl (c_kept, 89856, .inl v6))] : va_W) ++ px_np hh qq cN v7) H := hP
    have hD : va_D A (([((px_rf hh rf) 8, .inl (c_work, 156, .inr (.inr (.inr (.inr (fun k => some (hh k))))))), ((px_rf hh rf) 9, .inl (c_small, 156, .inl (upd g_small (Int32.toNatClampNeg ((12 * a4x) + a5x)) z2))), ((px_rf hh rf) 23, .inl (c_keptSmall, 3744, .inl g_keptSmall)), (h0, .inr (8, px_mf (px_rf hh rf) v5)), ((px_rf hh rf) 22, .inl (c_kept, 89856, .inl v6))] : va_W) ++ px_np hh qq cN v7) := hD
    have hP := hP.part (cx := [(h0, .inr (8, px_mf (px_rf hh rf) v5)), ((px_rf hh rf) 8, .inl (c_work, 156, .inr (.inr (.inr (.inr (fun k => some (hh k))))))), ((px_rf hh rf) 9, .inl (c_small, 156, .inl (upd g_small (Int32.toNatClampNeg ((12 * a4x) + a5x)) z2))), ((px_rf hh rf) 22, .inl (c_kept, 89856, .inl v6)), ((px_rf hh rf) 23, .inl (c_keptSmall, 3744, .inl g_keptSmall))]) [3, 0, 1, 4, 2] rfl
    have hD := hD.part (cx := [(h0, .inr (8, px_mf (px_rf hh rf) v5)), ((px_rf hh rf) 8, .inl (c_work, 156, .inr (.inr (.inr (.inr (fun k => some (hh k))))))), ((px_rf hh rf) 9, .inl (c_small, 156, .inl (upd g_small (Int32.toNatClampNeg ((12 * a4x) + a5x)) z2))), ((px_rf hh rf) 22, .inl (c_kept, 89856, .inl v6)), ((px_rf hh rf) 23, .inl (c_keptSmall, 3744, .inl g_keptSmall))]) [3, 0, 1, 4, 2] (by decide) rfl
    exact S58 a1x a2x a3x a4x a5x z1 v5 (upd g_small (Int32.toNatClampNeg ((12 * a4x) + a5x)) z2) v6 g_keptSmall v7 H locs ls hP hD hS (lv_sub hl [1, 2, 3, 4, 5, 6, 0] rfl) hw

/-! MatroidDeskModel.load(II)V -/
def w67_L44 (K2 : Int32 → Int32 → Int32 → (Nat → Int32) → (Nat → Int32) → (Nat → Int32) → (Nat → Int32) → (Nat → Int32) → (Nat → Int32) → (Nat → px_NV) → Prop) (post : (Nat → Int32) → (Nat → Int32) → (Nat → Int32) → (Nat → Int32) → (Nat → Int32) → (Nat → Int32) → (Nat → px_NV) → Prop) : Nat → Int32 → Int32 → Int32 → Int32 → (Nat → Int32) → (Nat → Int32) → (Nat → Int32) → (Nat → Int32) → (Nat → Int32) → (Nat → Int32) → (Nat → px_NV) → Prop
  | 0 => fun _ _ _ _ _ _ _ _ _ _ _ => False
  | k + 1 => fun x1 x2 x3 x4 iv g_small g_elements g_ranks g_kept g_keptSmall nv => vp_in x1 26 ∧ (((g_elements (Int32.toNatClampNeg x1)) ≤ x4 → ∀ z1 : Int32, z1 = (iv 10) + 1 → ∀ z2 : Int32, z2 = x3 + 1 → K2 x1 x2 z2 (va_up iv 10 z1) g_small g_elements g_ranks g_kept g_keptSmall nv) ∧ (¬ (g_elements (Int32.toNatClampNeg x1)) ≤ x4 → (w68_wp (fun v3 v4 v5 v6 v7 => ∀ z9 : Int32, z9 = x4 + 1 → (w67_L44 K2 post k) x1 x2 x3 z9 v3 v4 g_elements g_ranks v5 v6 v7) x1 x3 x4 (iv 10) (x2 + x4) iv g_small g_kept g_keptSmall nv)))
def w67_L15 (K2 : Int32 → Int32 → Int32 → (Nat → Int32) → (Nat → Int32) → (Nat → Int32) → (Nat → Int32) → (Nat → Int32) → (Nat → Int32) → (Nat → px_NV) → Prop) (post : (Nat → Int32) → (Nat → Int32) → (Nat → Int32) → (Nat → Int32) → (Nat → Int32) → (Nat → Int32) → (Nat → px_NV) → Prop) : Nat → Int32 → Int32 → Int32 → Int32 → (Nat → Int32) → (Nat → Int32) → (Nat → Int32) → (Nat → Int32) → (Nat → Int32) → (Nat → Int32) → (Nat → px_NV) → Prop
  | 0 => fun _ _ _ _ _ _ _ _ _ _ _ => False
  | k + 1 => fun x1 x2 x3 x4 iv g_small g_elements g_ranks g_kept g_keptSmall nv => ((iv 11) ≤ x4 → ∃ j44, w67_L44 K2 post j44 x1 x2 x3 0 iv g_small g_elements g_ranks g_kept g_keptSmall nv) ∧ (¬ (iv 11) ≤ x4 → (w49_wp (fun v10 v11 v12 => ∀ z14 : Int32, z14 = x4 + 1 → (w67_L15 K2 post k) x1 x2 x3 z14 v10 v11 g_elements g_ranks g_kept g_keptSmall v12) (iv 10) x4 0 iv g_small nv))
def w67_L2 (post : (Nat → Int32) → (Nat → Int32) → (Nat → Int32) → (Nat → Int32) → (Nat → Int32) → (Nat → Int32) → (Nat → px_NV) → Prop) : Nat → Int32 → Int32 → Int32 → (Nat → Int32) → (Nat → Int32) → (Nat → Int32) → (Nat → Int32) → (Nat → Int32) → (Nat → Int32) → (Nat → px_NV) → Prop
  | 0 => fun _ _ _ _ _ _ _ _ _ _ => False
  | k + 1 => fun x1 x2 x3 iv g_small g_elements g_ranks g_kept g_keptSmall nv => vp_in x1 26 ∧ (((g_ranks (Int32.toNatClampNeg x1)) ≤ x3 → post iv g_small g_elements g_ranks g_kept g_keptSmall nv) ∧ (¬ (g_ranks (Int32.toNatClampNeg x1)) ≤ x3 → ∃ j15, w67_L15 (w67_L2 post k) post j15 x1 x2 x3 0 iv g_small g_elements g_ranks g_kept g_keptSmall nv))
def w67_wp (post : (Nat → Int32) → (Nat → Int32) → (Nat → Int32) → (Nat → Int32) → (Nat → Int32) → (Nat → Int32) → (Nat → px_NV) → Prop) (a1x : Int32) (a2x : Int32) (iv : Nat → Int32) (g_small : Nat → Int32) (g_elements : Nat → Int32) (g_ranks : Nat → Int32) (g_kept : Nat → Int32) (g_keptSmall : Nat → Int32) (nv : Nat → px_NV) : Prop := ∃ j2, w67_L2 post j2 a1x a2x 0 iv g_small g_elements g_ranks g_kept g_keptSmall nv
set_option maxHeartbeats 8000000 in
set_option maxRecDepth 100000 in
theorem w67_met (l : Launch) (dC : Nat → ClassId) (dI : Nat → Nat → Nat) (sz : Nat) (h0 : Nat) (rf : Nat → Nat) (hh : Nat → Nat) (qq : Nat → Nat) (cN : ClassId) (c_work : ClassId) (c_small : ClassId) (c_elements : ClassId) (c_ranks : ClassId) (c_kept : ClassId) (c_keptSmall : ClassId) (a1x : Int32) (a2x : Int32) (iv : Nat → Int32) (g_small : Nat → Int32) (g_elements : Nat → Int32) (g_ranks : Nat → Int32) (g_kept : Nat → Int32) (g_keptSmall : Nat → Int32) (nv : Nat → px_NV) (post : (Nat → Int32) → (Nat → Int32) → (Nat → Int32) → (Nat → Int32) → (Nat → Int32) → (Nat → Int32) → (Nat → px_NV) → Prop) (hw : w67_wp post a1x a2x iv g_small g_elements g_ranks g_kept g_keptSmall nv) : Met l px_y67 px_s67 ({ frames := 3, cells := 0, slots := 0, locals := 68 }) (va_Pc [.ref h0, .int a1x, .int a2x] (fun U => U.heap.size = sz ∧ va_P (dC, dI) vwCl (([(h0, .inr (8, px_mf (px_rf hh rf) iv)), ((px_rf hh rf) 8, .inl (c_work, 156, .inr (.inr (.inr (.inr (fun k => some (hh k))))))), ((px_rf hh rf) 9, .inl (c_small, 156, .inl g_small)), ((px_rf hh rf) 19, .inl (c_elements, 26, .inl g_elements)), ((px_rf hh rf) 21, .inl (c_ranks, 26, .inl g_ranks)), ((px_rf hh rf) 22, .inl (c_kept, 89856, .inl g_kept)), ((px_rf hh rf) 23, .inl (c_keptSmall, 3744, .inl g_keptSmall))] : va_W) ++ px_np hh qq cN nv) U.heap ∧ va_K (dC, dI) vwCl [(c_work, .object "MatroidDeskModel$Num"), (c_small, .int), (c_elements, .int), (c_ranks, .int), (c_kept, .int), (c_keptSmall, .int), (cN, .int)] U ∧ va_D (fun _ => True) (([(h0, .inr (8, px_mf (px_rf hh rf) iv)), ((px_rf hh rf) 8, .inl (c_work, 156, .inr (.inr (.inr (.inr (fun k => some (hh k))))))), ((px_rf hh rf) 9, .inl (c_small, 156, .inl g_small)), ((px_rf hh rf) 19, .inl (c_elements, 26, .inl g_elements)), ((px_rf hh rf) 21, .inl (c_ranks, 26, .inl g_ranks)), ((px_rf hh rf) 22, .inl (c_kept, 89856, .inl g_kept)), ((px_rf hh rf) 23, .inl (c_keptSmall, 3744, .inl g_keptSmall))] : va_W) ++ px_np hh qq cN nv) ∧ px_N U)) (va_Qv (fun (u : (Nat → Int32) × (Nat → Int32) × (Nat → Int32) × (Nat → Int32) × (Nat → Int32) × (Nat → Int32) × (Nat → px_NV)) => post u.1 u.2.1 u.2.2.1 u.2.2.2.1 u.2.2.2.2.1 u.2.2.2.2.2.1 u.2.2.2.2.2.2) (fun (u : (Nat → Int32) × (Nat → Int32) × (Nat → Int32) × (Nat → Int32) × (Nat → Int32) × (Nat → Int32) × (Nat → px_NV)) (t : State) => va_P (dC, dI) vwCl (([(h0, .inr (8, px_mf (px_rf hh rf) u.1)), ((px_rf hh rf) 8, .inl (c_work, 156, .inr (.inr (.inr (.inr (fun k => some (hh k))))))), ((px_rf hh rf) 9, .inl (c_small, 156, .inl u.2.1)), ((px_rf hh rf) 19, .inl (c_elements, 26, .inl u.2.2.1)), ((px_rf hh rf) 21, .inl (c_ranks, 26, .inl u.2.2.2.1)), ((px_rf hh rf) 22, .inl (c_kept, 89856, .inl u.2.2.2.2.1)), ((px_rf hh rf) 23, .inl (c_keptSmall, 3744, .inl u.2.2.2.2.2.1))] : va_W) ++ px_np hh qq cN u.2.2.2.2.2.2) t.heap ∧ va_K (dC, dI) vwCl [(c_work, .object "MatroidDeskModel$Num"), (c_small, .int), (c_elements, .int), (c_ranks, .int), (c_kept, .int), (c_keptSmall, .int), (cN, .int)] t ∧ va_D (va_A (([(h0, .inr (8, px_mf (px_rf hh rf) iv)), ((px_rf hh rf) 8, .inl (c_work, 156, .inr (.inr (.inr (.inr (fun k => some (hh k))))))), ((px_rf hh rf) 9, .inl (c_small, 156, .inl g_small)), ((px_rf hh rf) 19, .inl (c_elements, 26, .inl g_elements)), ((px_rf hh rf) 21, .inl (c_ranks, 26, .inl g_ranks)), ((px_rf hh rf) 22, .inl (c_kept, 89856, .inl g_kept)), ((px_rf hh rf) 23, .inl (c_keptSmall, 3744, .inl g_keptSmall))] : va_W) ++ px_np hh qq cN nv) sz) (([(h0, .inr (8, px_mf (px_rf hh rf) u.1)), ((px_rf hh rf) 8, .inl (c_work, 156, .inr (.inr (.inr (.inr (fun k => some (hh k))))))), ((px_rf hh rf) 9, .inl (c_small, 156, .inl u.2.1)), ((px_rf hh rf) 19, .inl (c_elements, 26, .inl u.2.2.1)), ((px_rf hh rf) 21, .inl (c_ranks, 26, .inl u.2.2.2.1)), ((px_rf hh rf) 22, .inl (c_kept, 89856, .inl u.2.2.2.2.1)), ((px_rf hh rf) 23, .inl (c_keptSmall, 3744, .inl u.2.2.2.2.2.1))] : va_W) ++ px_np hh qq cN u.2.2.2.2.2.2)) (va_A (([(h0, .inr (8, px_mf (px_rf hh rf) iv)), ((px_rf hh rf) 8, .inl (c_work, 156, .inr (.inr (.inr (.inr (fun k => some (hh k))))))), ((px_rf hh rf) 9, .inl (c_small, 156, .inl g_small)), ((px_rf hh rf) 19, .inl (c_elements, 26, .inl g_elements)), ((px_rf hh rf) 21, .inl (c_ranks, 26, .inl g_ranks)), ((px_rf hh rf) 22, .inl (c_kept, 89856, .inl g_kept)), ((px_rf hh rf) 23, .inl (c_keptSmall, 3744, .inl g_keptSmall))] : va_W) ++ px_np hh qq cN nv) sz)) 0 0 (va_A (([(h0, .inr (8, px_mf (px_rf hh rf) iv)), ((px_rf hh rf) 8, .inl (c_work, 156, .inr (.inr (.inr (.inr (fun k => some (hh k))))))), ((px_rf hh rf) 9, .inl (c_small, 156, .inl g_small)), ((px_rf hh rf) 19, .inl (c_elements, 26, .inl g_elements)), ((px_rf hh rf) 21, .inl (c_ranks, 26, .inl g_ranks)), ((px_rf hh rf) 22, .inl (c_kept, 89856, .inl g_kept)), ((px_rf hh rf) 23, .inl (c_keptSmall, 3744, .inl g_keptSmall))] : va_W) ++ px_np hh qq cN nv) sz) := by
  refine Met.ofW (cc := prog_15_method_22_code) (maxL := 5) (ret := none) (by decide) rfl ?_
  intro p e s m args below meth c s₁ B hml hv
  obtain ⟨rfl, hsz, hP, hK, hD0, hN⟩ := hv
  have hx := B.exec
  have hb := B.bytes
  have hr := B.returns
  have htw : ∀ w ∈ px_all, w.before _ s = true := fun w h => atoms_spec (ws := px_s67) B.pre w (List.mem_cons_of_mem _ h)
  have hown : s.vm.findClass "MatroidDeskModel" = some m.cls := findClass_of_methodNamed B.named
  have hlocks := B.notSynchronized
  subst hsz
  have hD := hD0.self (sz := s.heap.size)
  generalize hAe : va_A (([(h0, .inr (8, px_mf (px_rf hh rf) iv)), ((px_rf hh rf) 8, .inl (c_work, 156, .inr (.inr (.inr (.inr (fun k => some (hh k))))))), ((px_rf hh rf) 9, .inl (c_small, 156, .inl g_small)), ((px_rf hh rf) 19, .inl (c_elements, 26, .inl g_elements)), ((px_rf hh rf) 21, .inl (c_ranks, 26, .inl g_ranks)), ((px_rf hh rf) 22, .inl (c_kept, 89856, .inl g_kept)), ((px_rf hh rf) 23, .inl (c_keptSmall, 3744, .inl g_keptSmall))] : va_W) ++ px_np hh qq cN nv) s.heap.size = A at hD ⊢
  have hA : ∀ q : Nat, s.heap.size ≤ q → A q := fun q h => by rw [← hAe]; exact Or.inr h
  have hS : va_S A s.heap s.heap [] := va_S.rf
  have hP : va_P (dC, dI) vwCl (([(h0, .inr (8, px_mf (px_rf hh rf) iv)), ((px_rf hh rf) 8, .inl (c_work, 156, .inr (.inr (.inr (.inr (fun k => some (hh k))))))), ((px_rf hh rf) 9, .inl (c_small, 156, .inl g_small)), ((px_rf hh rf) 19, .inl (c_elements, 26, .inl g_elements)), ((px_rf hh rf) 21, .inl (c_ranks, 26, .inl g_ranks)), ((px_rf hh rf) 22, .inl (c_kept, 89856, .inl g_kept)), ((px_rf hh rf) 23, .inl (c_keptSmall, 3744, .inl g_keptSmall))] : va_W) ++ px_np hh qq cN nv) s.heap := hP
  have hl := lv_entry ([.ref h0, .int a1x, .int a2x]) (n := 5) (Nat.le_of_ble_eq_true rfl)
  rw [lg_entry_eq]
  generalize (lg_sl ([.ref h0, .int a1x, .int a2x]) ++ List.replicate (5 - (lg_sl ([.ref h0, .int a1x, .int a2x])).length) Slot.unset).toArray = ls at hl ⊢
  have hl : lv_has ls 5 [(0, .ref h0), (1, .int a1x), (2, .int a2x)] := hl
  generalize hQ : MQ _ _ _ _ _ _ _ = Q
  have S2 : ∀ (k2 : Nat) (x1 : Int32) (x2 : Int32) (x3 : Int32) (iv : Nat → Int32) (g_small : Nat → Int32) (g_elements : Nat → Int32) (g_ranks : Nat → Int32) (g_kept : Nat → Int32) (g_keptSmall : Nat → Int32) (nv : Nat → px_NV) (H : Heap) (locs : List Loc) (ls : Array Slot), va_P (dC, dI) vwCl (([(h0, .inr (8, px_mf (px_rf hh rf) iv)), ((px_rf hh rf) 8, .inl (c_work, 156, .inr (.inr (.inr (.inr (fun k => some (hh k))))))), ((px_rf hh rf) 9, .inl (c_small, 156, .inl g_small)), ((px_rf hh rf) 19, .inl (c_elements, 26, .inl g_elements)), ((px_rf hh rf) 21, .inl (c_ranks, 26, .inl g_ranks)), ((px_rf hh rf) 22, .inl (c_kept, 89856, .inl g_kept)), ((px_rf hh rf) 23, .inl (c_keptSmall, 3744, .inl g_keptSmall))] : va_W) ++ px_np hh qq cN nv) H → va_D A (([(h0, .inr (8, px_mf (px_rf hh rf) iv)), ((px_rf hh rf) 8, .inl (c_work, 156, .inr (.inr (.inr (.inr (fun k => some (hh k))))))), ((px_rf hh rf) 9, .inl (c_small, 156, .inl g_small)), ((px_rf hh rf) 19, .inl (c_elements, 26, .inl g_elements)), ((px_rf hh rf) 21, .inl (c_ranks, 26, .inl g_ranks)), ((px_rf hh rf) 22, .inl (c_kept, 89856, .inl g_kept)), ((px_rf hh rf) 23, .inl (c_keptSmall, 3744, .inl g_keptSmall))] : va_W) ++ px_np hh qq cN nv) → va_S A s.heap H locs → lv_has ls 5 [(0, .ref h0), (1, .int x1), (2, .int x2), (3, .int x3)] → w67_L2 post k2 x1 x2 x3 iv g_small g_elements g_ranks g_kept g_keptSmall nv → W p l e (headSpec px_s67 ({ frames := 3, cells := 0, slots := 0, locals := 68 })).room s m ([.ref h0, .int a1x, .int a2x]).toArray below meth c H locs 0 0 Q (F0 m 2 ls []) := by
    intro k2
    induction k2 with
    | zero => intro x1 x2 x3 iv g_small g_elements g_ranks g_kept g_keptSmall nv H locs ls hP hD hS hl hw; exact False.elim hw
    | succ k2 ih2 =>
      have S44 : ∀ (k44 : Nat) (x1 : Int32) (x2 : Int32) (x3 : Int32) (x4 : Int32) (iv : Nat → Int32) (g_small : Nat → Int32) (g_elements : Nat → Int32) (g_ranks : Nat → Int32) (g_kept : Nat → Int32) (g_keptSmall : Nat → Int32) (nv : Nat → px_NV) (H : Heap) (locs : List Loc) (ls : Array Slot), va_P (dC, dI) vwCl (([(h0, .inr (8, px_mf (px_rf hh rf) iv)), ((px_rf hh rf) 8, .inl (c_work, 156, .inr (.inr (.inr (.inr (fun k => some (hh k))))))), ((px_rf hh rf) 9, .inl (c_small, 156, .inl g_small)), ((px_rf hh rf) 19, .inl (c_elements, 26, .inl g_elements)), ((px_rf hh rf) 21, .inl (c_ranks, 26, .inl g_ranks)), ((px_rf hh rf) 22, .inl (c_kept, 89856, .inl g_kept)), ((px_rf hh rf) 23, .inl (c_keptSmall, 3744, .inl g_keptSmall))] : va_W) ++ px_np hh qq cN nv) H → va_D A (([(h0, .inr (8, px_mf (px_rf hh rf) iv)), ((px_rf hh rf) 8, .inl (c_work, 156, .inr (.inr (.inr (.inr (fun k => some (hh k))))))), ((px_rf hh rf) 9, .inl (c_small, 156, .inl g_small)), ((px_rf hh rf) 19, .inl (c_elements, 26, .inl g_elements)), ((px_rf hh rf) 21, .inl (c_ranks, 26, .inl g_ranks)), ((px_rf hh rf) 22, .inl (c_kept, 89856, .inl g_kept)), ((px_rf hh rf) 23, .inl (c_keptSmall, 3744, .inl g_keptSmall))] : va_W) ++ px_np hh qq cN nv) → va_S A s.heap H locs → lv_has ls 5 [(0, .ref h0), (1, .int x1), (2, .int x2), (3, .int x3), (4, .int x4)] → w67_L44 (w67_L2 post k2) post k44 x1 x2 x3 x4 iv g_small g_elements g_ranks g_kept g_keptSmall nv → W p l e (headSpec px_s67 ({ frames := 3, cells := 0, slots := 0, locals := 68 })).room s m ([.ref h0, .int a1x, .int a2x]).toArray below meth c H locs 0 0 Q (F0 m 44 ls []) := by
        intro k44
        induction k44 with
        | zero => intro x1 x2 x3 x4 iv g_small g_elements g_ranks g_kept g_keptSmall nv H locs ls hP hD hS hl hw; exact False.elim hw
        | succ k44 ih44 =>
          intro x1 x2 x3 x4 iv g_small g_elements g_ranks g_kept g_keptSmall nv H locs ls hP hD hS hl hw
          unfold w67_L44 at hw
          refine lv_iload hx hb px_d67_44 (lv_at hl 4 rfl) ?_
          refine lv_aload_n hx hb px_d67_46 rfl (lv_at hl 0 rfl) ?_
          refine va_get (D := (dC, dI)) (ci := 8) (v := .ref ((px_rf hh rf) 19)) (C := "MatroidDeskModel") (T := px_T8) (N := 53) hx hb htw px_in8 hown hK hP 0 rfl rfl 19 (by decide) (htw _ px_w502) (fun _ h9 => h9) rfl px_d67_47 ?_
          refine lv_iload_n hx hb px_d67_50 rfl (lv_at hl 1 rfl) ?_
          obtain ⟨hi51, hw⟩ := hw
          refine va_iald hx hb hK hP 3 2 rfl rfl hi51 px_d67_51 ?_
          refine lv_icmp_ge (tgt := 77) hx hb px_d67_52 (by decide) (fun c52 => ?_) (fun c52 => ?_)
          · have hw := hw.1 c52
            refine lv_aload_n hx hb px_d67_77 rfl (lv_at hl 0 rfl) ?_
            refine lv_dup hx hb px_d67_78 rfl ?_
            refine va_get (D := (dC, dI)) (ci := 8) (v := .int (iv 10)) (C := "MatroidDeskModel") (T := px_T8) (N := 53) hx hb htw px_in8 hown hK hP 0 rfl rfl 10 (by decide) (htw _ px_w430) (fun _ h9 => h9) rfl px_d67_79 ?_
            refine lv_iconst (v := 1) hx hb px_d67_82 (by decide) ?_
            refine lv_iadd hx hb px_d67_83 ?_
            refine lv_topi (fun z1 ez1 => ?_)
            have hw := hw z1 ez1
            refine va_put (D := (dC, dI)) (ci := 8) (v := .int z1) (ty := .int) (C := "MatroidDeskModel") (T := px_T8) (N := 53) hx hb htw px_in8 px_ty8 px_tyok8 px_nm8 hown hK hP hD hS 0 rfl rfl 10 (by decide) (htw _ px_w430) (fun _ h9 => h9) rfl (by decide +kernel) rfl rfl (Nat.le_of_ble_eq_true rfl) px_d67_84 (fun H locs hP hD hS => ?_)
            rw [px_ms10] at hP hD
            have hP : va_P (dC, dI) vwCl (([(h0, .inr (8, px_mf (px_rf hh rf) (va_up iv 10 z1))), ((px_rf hh rf) 8, .inl (c_work, 156, .inr (.inr (.inr (.inr (fun k => some (hh k))))))), ((px_rf hh rf) 9, .inl (c_small, 156, .inl g_small)), ((px_rf hh rf) 19, .inl (c_elements, 26, .inl g_elements)), ((px_rf hh rf) 21, .inl (c_ranks, 26, .inl g_ranks)), ((px_rf hh rf) 22, .inl (c_kept, 89856, .inl g_kept)), ((px_rf hh rf) 23, .inl (c_keptSmall, 3744, .inl g_keptSmall))] : va_W) ++ px_np hh qq cN nv) H := hP
            have hD : va_D A (([(h0, .inr (8, px_mf (px_rf hh rf) (va_up iv 10 z1))), ((px_rf hh rf) 8, .inl (c_work, 156, .inr (.inr (.inr (.inr (fun k => some (hh k))))))), ((px_rf hh rf) 9, .inl (c_small, 156, .inl g_small)), ((px_rf hh rf) 19, .inl (c_elements, 26, .inl g_elements)), ((px_rf hh rf) 21, .inl (c_ranks, 26, .inl g_ranks)), ((px_rf hh rf) 22, .inl (c_kept, 89856, .inl g_kept)), ((px_rf hh rf) 23, .inl (c_keptSmall, 3744, .inl g_keptSmall))] : va_W) ++ px_np hh qq cN nv) := hD
            obtain ⟨z2, ez2⟩ : ∃ y : Int32, y = x3 + 1 := ⟨_, rfl⟩
            have hw := hw z2 ez2
            refine lv_iinc (v := z2) (lv' := [(3, .int z2), (0, .ref h0), (1, .int x1), (2, .int x2), (4, .int x4)]) hx hb px_d67_87 hl (k := 3) rfl (by rw [ez2]; rfl) (by decide) rfl (fun ls hl => ?_)
            refine lv_goto (tgt := 2) hx hb px_d67_90 (by decide) ?_
            exact ih2 x1 x2 z2 (va_up iv 10 z1) g_small g_elements g_ranks g_kept g_keptSmall nv H locs ls hP hD hS (lv_sub hl [1, 2, 3, 0] rfl) hw
          · have hw := hw.2 c52
            refine lv_aload_n hx hb px_d67_55 rfl (lv_at hl 0 rfl) ?_
            refine lv_iload_n hx hb px_d67_56 rfl (lv_at hl 1 rfl) ?_
            refine lv_iload_n hx hb px_d67_57 rfl (lv_at hl 3 rfl) ?_
            refine lv_iload hx hb px_d67_58 (lv_at hl 4 rfl) ?_
            refine lv_aload_n hx hb px_d67_60 rfl (lv_at hl 0 rfl) ?_
            refine va_get (D := (dC, dI)) (ci := 8) (v := .int (iv 10)) (C := "MatroidDeskModel") (T := px_T8) (N := 53) hx hb htw px_in8 hown hK hP 0 rfl rfl 10 (by decide) (htw _ px_w430) (fun _ h9 => h9) rfl px_d67_61 ?_
            refine lv_iload_n hx hb px_d67_64 rfl (lv_at hl 2 rfl) ?_
            refine lv_iload hx hb px_d67_65 (lv_at hl 4 rfl) ?_
            refine lv_iadd hx hb px_d67_67 ?_
            have hPc := hP.part (cx := [(h0, .inr (8, px_mf (px_rf hh rf) iv)), ((px_rf hh rf) 8, .inl (c_work, 156, .inr (.inr (.inr (.inr (fun k => some (hh k))))))), ((px_rf hh rf) 9, .inl (c_small, 156, .inl g_small)), ((px_rf hh rf) 22, .inl (c_kept, 89856, .inl g_kept)), ((px_rf hh rf) 23, .inl (c_keptSmall, 3744, .inl g_keptSmall))]) [0, 1, 2, 5, 6] rfl
            have hDc := hD.part (cx := [(h0, .inr (8, px_mf (px_rf hh rf) iv)), ((px_rf hh rf) 8, .inl (c_work, 156, .inr (.inr (.inr (.inr (fun k => some (hh k))))))), ((px_rf hh rf) 9, .inl (c_small, 156, .inl g_small)), ((px_rf hh rf) 22, .inl (c_kept, 89856, .inl g_kept)), ((px_rf hh rf) 23, .inl (c_keptSmall, 3744, .inl g_keptSmall))]) [0, 1, 2, 5, 6] (by decide) rfl
            have hFc := va_freeP (cx := [(h0, .inr (8, px_mf (px_rf hh rf) iv)), ((px_rf hh rf) 8, .inl (c_work, 156, .inr (.inr (.inr (.inr (fun k => some (hh k))))))), ((px_rf hh rf) 9, .inl (c_small, 156, .inl g_small)), ((px_rf hh rf) 22, .inl (c_kept, 89856, .inl g_kept)), ((px_rf hh rf) 23, .inl (c_keptSmall, 3744, .inl g_keptSmall))]) hD hS hA [0, 1, 2, 5, 6] rfl
            have hKc := hK.sub (tys' := [(c_work, .object "MatroidDeskModel$Num"), (c_small, .int), (c_kept, .int), (c_keptSmall, .int), (cN, .int)]) [0, 1, 4, 5, 6] rfl
            refine va_callv (va_runV (As := [.int x1, .int x3, .int x4, .int (iv 10), .int (x2 + x4)]) (rest := []) ⟨hx, hb, hml, hown, htw⟩ (w68_met l dC dI H.size h0 rf hh qq cN c_work c_small c_kept c_keptSmall x1 x3 x4 (iv 10) (x2 + x4) iv g_small g_kept g_keptSmall nv _ hw) (cwV 5 htw (px_gv px_w543 px_w545 px_w546 px_w94 px_g68) rfl rfl rfl (by decide +kernel) ⟨Nat.le_of_ble_eq_true rfl, Nat.le_of_ble_eq_true rfl⟩) ⟨fun a U g mk q => by obtain ⟨q0, q1, qP, qK, qD, qN⟩ := q; exact ⟨q0, q1, qP, va_K.moved (u := U) (U := U.calling g mk a) (Vm.Alike.refl U.vm) qK, qD, qN.same rfl⟩, va_recv hK hP (ci := 8) (q0 := 0) rfl rfl, fun U hU hW => ⟨rfl, by rw [hU], by rw [hU]; exact hPc, va_K.moved hW.alike hKc, hDc.weaken (fun _ _ _ _ => trivial), hN.warm hW⟩⟩ rfl rfl hl.1 rfl (lv_room (Nat.le_of_ble_eq_true rfl)) px_d67_68 ⟨(Nat.le_of_ble_eq_true rfl), (Nat.le_of_ble_eq_true rfl)⟩) hS (fun q _ h => hFc q h) hFc (fun u t H1 locs ht hvm hw hB hz1 hk1 hS => ?_)
            obtain ⟨v3, v4, v5, v6, v7⟩ := u
            obtain ⟨hP1, hK1, hD1⟩ := hB
            rw [ht] at hP1
            obtain ⟨hP, hD⟩ := va_joinP (wr := [((px_rf hh rf) 19, .inl (c_elements, 26, .inl g_elements)), ((px_rf hh rf) 21, .inl (c_ranks, 26, .inl g_ranks))]) (rx := [(h0, .inr (8, px_mf (px_rf hh rf) v3)), ((px_rf hh rf) 8, .inl (c_work, 156, .inr (.inr (.inr (.inr (fun k => some (hh k))))))), ((px_rf hh rf) 9, .inl (c_small, 156, .inl v4)), ((px_rf hh rf) 22, .inl (c_kept, 89856, .inl v5)), ((px_rf hh rf) 23, .inl (c_keptSmall, 3744, .inl v6))]) hP hD [0, 1, 2, 5, 6] [3, 4] rfl rfl (by decide) (by decide) hk1 hFc hP1 hD1
            generalize H1 = H at hP hS ⊢
            have hP : va_P (dC, dI) vwCl (([((px_rf hh rf) 19, .inl (c_elements, 26, .inl g_elements)), ((px_rf hh rf) 21, .inl (c_ranks, 26, .inl g_ranks)), (h0, .inr (8, px_mf (px_rf hh rf) v3)), ((px_rf hh rf) 8, .inl (c_work, 156, .inr (.inr (.inr (.inr (fun k => some (hh k))))))), ((px_rf hh rf) 9, .inl (c_small, 156, .inl v4)), ((px_rf hh rf) 22, .inl (c_kept, 89856, .inl v5)), ((px_rf hh rf) 23, .inl (c_keptSmall, 3744, .inl v6))] : va_W) ++ px_np hh qq cN v7) H := hP
            have hD : va_D A (([((px_rf hh rf) 19, .inl (c_elements, 26, .inl g_elements)), ((px_rf hh rf) 21, .inl (c_ranks, 26, .inl g_ranks)), (h0, .inr (8, px_mf (px_rf hh rf) v3)), ((px_rf hh rf) 8, .inl (c_work, 156, .inr (.inr (.inr (.inr (fun k => some (hh k))))))), ((px_rf hh rf) 9, .inl (c_small, 156, .inl v4)), ((px_rf hh rf) 22, .inl (c_kept, 89856, .inl v5)), ((px_rf hh rf) 23, .inl (c_keptSmall, 3744, .inl v6))] : va_W) ++ px_np hh qq cN v7) := hD
            have hP := hP.part (cx := [(h0, .inr (8, px_mf (px_rf hh rf) v3)), ((px_rf hh rf) 8, .inl (c_work, 156, .inr (.inr (.inr (.inr (fun k => some (hh k))))))), ((px_rf hh rf) 9, .inl (c_small, 156, .inl v4)), ((px_rf hh rf) 19, .inl (c_elements, 26, .inl g_elements)), ((px_rf hh rf) 21, .inl (c_ranks, 26, .inl g_ranks)), ((px_rf hh rf) 22, .inl (c_kept, 89856, .inl v5)), ((px_rf hh rf) 23, .inl (c_keptSmall, 3744, .inl v6))]) [2, 3, 4, 0, 1, 5, 6] rfl
            have hD := hD.part (cx := [(h0, .inr (8, px_mf (px_rf hh rf) v3)), ((px_rf hh rf) 8, .inl (c_work, 156, .inr (.inr (.inr (.inr (fun k => some (hh k))))))), ((px_rf hh rf) 9, .inl (c_small, 156, .inl v4)), ((px_rf hh rf) 19, .inl (c_elements, 26, .inl g_elements)), ((px_rf hh rf) 21, .inl (c_ranks, 26, .inl g_ranks)), ((px_rf hh rf) 22, .inl (c_kept, 89856, .inl v5)), ((px_rf hh rf) 23, .inl (c_keptSmall, 3744, .inl v6))]) [2, 3, 4, 0, 1, 5, 6] (by decide) rfl
            obtain ⟨z9, ez9⟩ : ∃ y : Int32, y = x4 + 1 := ⟨_, rfl⟩
            have hw := hw z9 ez9
            refine lv_iinc (v := z9) (lv' := [(4, .int z9), (0, .ref h0), (1, .int x1), (2, .int x2), (3, .int x3)]) hx hb px_d67_71 hl (k := 4) rfl (by rw [ez9]; rfl) (by decide) rfl (fun ls hl => ?_)
            refine lv_goto (tgt := 44) hx hb px_d67_74 (by decide) ?_
            exact ih44 x1 x2 x3 z9 v3 v4 g_elements g_ranks v5 v6 v7 H locs ls hP hD hS (lv_sub hl [1, 2, 3, 4, 0] rfl) hw
      have S15 : ∀ (k15 : Nat) (x1 : Int32) (x2 : Int32) (x3 : Int32) (x4 : Int32) (iv : Nat → Int32) (g_small : Nat → Int32) (g_elements : Nat → Int32) (g_ranks : Nat → Int32) (g_kept : Nat → Int32) (g_keptSmall : Nat → Int32) (nv : Nat → px_NV) (H : Heap) (locs : List Loc) (ls : Array Slot), va_P (dC, dI) vwCl (([(h0, .inr (8, px_mf (px_rf hh rf) iv)), ((px_rf hh rf) 8, .inl (c_work, 156, .inr (.inr (.inr (.inr (fun k => some (hh k))))))), ((px_rf hh rf) 9, .inl (c_small, 156, .inl g_small)), ((px_rf hh rf) 19, .inl (c_elements, 26, .inl g_elements)), ((px_rf hh rf) 21, .inl (c_ranks, 26, .inl g_ranks)), ((px_rf hh rf) 22, .inl (c_kept, 89856, .inl g_kept)), ((px_rf hh rf) 23, .inl (c_keptSmall, 3744, .inl g_keptSmall))] : va_W) ++ px_np hh qq cN nv) H → va_D A (([(h0, .inr (8, px_mf (px_rf hh rf) iv)), ((px_rf hh rf) 8, .inl (c_work, 156, .inr (.inr (.inr (.inr (fun k => some (hh k))))))), ((px_rf hh rf) 9, .inl (c_small, 156, .inl g_small)), ((px_rf hh rf) 19, .inl (c_elements, 26, .inl g_elements)), ((px_rf hh rf) 21, .inl (c_ranks, 26, .inl g_ranks)), ((px_rf hh rf) 22, .inl (c_kept, 89856, .inl g_kept)), ((px_rf hh rf) 23, .inl (c_keptSmall, 3744, .inl g_keptSmall))] : va_W) ++ px_np hh qq cN nv) → va_S A s.heap H locs → lv_has ls 5 [(0, .ref h0), (1, .int x1), (2, .int x2), (3, .int x3), (4, .int x4)] → w67_L15 (w67_L2 post k2) post k15 x1 x2 x3 x4 iv g_small g_elements g_ranks g_kept g_keptSmall nv → W p l e (headSpec px_s67 ({ frames := 3, cells := 0, slots := 0, locals := 68 })).room s m ([.ref h0, .int a1x, .int a2x]).toArray below meth c H locs 0 0 Q (F0 m 15 ls []) := by
        intro k15
        induction k15 with
        | zero => intro x1 x2 x3 x4 iv g_small g_elements g_ranks g_kept g_keptSmall nv H locs ls hP hD hS hl hw; exact False.elim hw
        | succ k15 ih15 =>
          intro x1 x2 x3 x4 iv g_small g_elements g_ranks g_kept g_keptSmall nv H locs ls hP hD hS hl hw
          unfold w67_L15 at hw
          refine lv_iload hx hb px_d67_15 (lv_at hl 4 rfl) ?_
          refine lv_aload_n hx hb px_d67_17 rfl (lv_at hl 0 rfl) ?_
          refine va_get (D := (dC, dI)) (ci := 8) (v := .int (iv 11)) (C := "MatroidDeskModel") (T := px_T8) (N := 53) hx hb htw px_in8 hown hK hP 0 rfl rfl 11 (by decide) (htw _ px_w429) (fun _ h9 => h9) rfl px_d67_18 ?_
          refine lv_icmp_ge (tgt := 41) hx hb px_d67_21 (by decide) (fun c21 => ?_) (fun c21 => ?_)
          · have hw := hw.1 c21
            refine lv_iconst (v := 0) hx hb px_d67_41 (by decide) ?_
            refine lv_istore (lv' := [(4, .int 0), (0, .ref h0), (1, .int x1), (2, .int x2), (3, .int x3)]) hx hb px_d67_42 hl (by decide) rfl (fun ls hl => ?_)
            obtain ⟨k9, hw⟩ := hw
            exact S44 k9 x1 x2 x3 0 iv g_small g_elements g_ranks g_kept g_keptSmall nv H locs ls hP hD hS (lv_sub hl [1, 2, 3, 4, 0] rfl) hw
          · have hw := hw.2 c21
            refine lv_aload_n hx hb px_d67_24 rfl (lv_at hl 0 rfl) ?_
            refine lv_aload_n hx hb px_d67_25 rfl (lv_at hl 0 rfl) ?_
            refine va_get (D := (dC, dI)) (ci := 8) (v := .int (iv 10)) (C := "MatroidDeskModel") (T := px_T8) (N := 53) hx hb htw px_in8 hown hK hP 0 rfl rfl 10 (by decide) (htw _ px_w430) (fun _ h9 => h9) rfl px_d67_26 ?_
            refine lv_iload hx hb px_d67_29 (lv_at hl 4 rfl) ?_
            refine lv_lconst (v := 0) hx hb px_d67_31 (by decide) ?_
            have hPc := hP.part (cx := [(h0, .inr (8, px_mf (px_rf hh rf) iv)), ((px_rf hh rf) 8, .inl (c_work, 156, .inr (.inr (.inr (.inr (fun k => some (hh k))))))), ((px_rf hh rf) 9, .inl (c_small, 156, .inl g_small))]) [0, 1, 2] rfl
            have hDc := hD.part (cx := [(h0, .inr (8, px_mf (px_rf hh rf) iv)), ((px_rf hh rf) 8, .inl (c_work, 156, .inr (.inr (.inr (.inr (fun k => some (hh k))))))), ((px_rf hh rf) 9, .inl (c_small, 156, .inl g_small))]) [0, 1, 2] (by decide) rfl
            have hFc := va_freeP (cx := [(h0, .inr (8, px_mf (px_rf hh rf) iv)), ((px_rf hh rf) 8, .inl (c_work, 156, .inr (.inr (.inr (.inr (fun k => some (hh k))))))), ((px_rf hh rf) 9, .inl (c_small, 156, .inl g_small))]) hD hS hA [0, 1, 2] rfl
            have hKc := hK.sub (tys' := [(c_work, .object "MatroidDeskModel$Num"), (c_small, .int), (cN, .int)]) [0, 1, 6] rfl
            refine va_callv (va_runV (As := [.int (iv 10), .int x4, .long 0]) (rest := []) ⟨hx, hb, hml, hown, htw⟩ (w49_met l dC dI H.size h0 rf hh qq cN c_work c_small (iv 10) x4 0 iv g_small nv _ hw) (cwV 3 htw (px_gv px_w542 px_w432 px_w433 px_w94 px_g49) rfl rfl rfl (by decide +kernel) ⟨Nat.le_of_ble_eq_true rfl, Nat.le_of_ble_eq_true rfl⟩) ⟨fun a U g mk q => by obtain ⟨q0, q1, qP, qK, qD, qN⟩ := q; exact ⟨q0, q1, qP, va_K.moved (u := U) (U := U.calling g mk a) (Vm.Alike.refl U.vm) qK, qD, qN.same rfl⟩, va_recv hK hP (ci := 8) (q0 := 0) rfl rfl, fun U hU hW => ⟨rfl, by rw [hU], by rw [hU]; exact hPc, va_K.moved hW.alike hKc, hDc.weaken (fun _ _ _ _ => trivial), hN.warm hW⟩⟩ rfl rfl hl.1 rfl (lv_room (Nat.le_of_ble_eq_true rfl)) px_d67_32 ⟨(Nat.le_of_ble_eq_true rfl), (Nat.le_of_ble_eq_true rfl)⟩) hS (fun q _ h => hFc q h) hFc (fun u t H1 locs ht hvm hw hB hz1 hk1 hS => ?_)
            obtain ⟨v10, v11, v12⟩ := u
            obtain ⟨hP1, hK1, hD1⟩ := hB
            rw [ht] at hP1
            obtain ⟨hP, hD⟩ := va_joinP (wr := [((px_rf hh rf) 19, .inl (c_elements, 26, .inl g_elements)), ((px_rf hh rf) 21, .inl (c_ranks, 26, .inl g_ranks)), ((px_rf hh rf) 22, .inl (c_kept, 89856, .inl g_kept)), ((px_rf hh rf) 23, .inl (c_keptSmall, 3744, .inl g_keptSmall))]) (rx := [(h0, .inr (8, px_mf (px_rf hh rf) v10)), ((px_rf hh rf) 8, .inl (c_work, 156, .inr (.inr (.inr (.inr (fun k => some (hh k))))))), ((px_rf hh rf) 9, .inl (c_small, 156, .inl v11))]) hP hD [0, 1, 2] [3, 4, 5, 6] rfl rfl (by decide) (by decide) hk1 hFc hP1 hD1
            generalize H1 = H at hP hS ⊢
            have hP : va_P (dC, dI) vwCl (([((px_rf hh rf) 19, .inl (c_elements, 26, .inl g_elements)), ((px_rf hh rf) 21, .inl (c_ranks, 26, .inl g_ranks)), ((px_rf hh rf) 22, .inl (c_kept, 89856, .inl g_kept)), ((px_rf hh rf) 23, .inl (c_keptSmall, 3744, .inl g_keptSmall)), (h0, .inr (8, px_mf (px_rf hh rf) v10)), ((px_rf hh rf) 8, .inl (c_work, 156, .inr (.inr (.inr (.inr (fun k => some (hh k))))))), ((px_rf hh rf) 9, .inl (c_small, 156, .inl v11))] : va_W) ++ px_np hh qq cN v12) H := hP
            have hD : va_D A (([((px_rf hh rf) 19, .inl (c_elements, 26, .inl g_elements)), ((px_rf hh rf) 21, .inl (c_ranks, 26, .inl g_ranks)), ((px_rf hh rf) 22, .inl (c_kept, 89856, .inl g_kept)), ((px_rf hh rf) 23, .inl (c_keptSmall, 3744, .inl g_keptSmall)), (h0, .inr (8, px_mf (px_rf hh rf) v10)), ((px_rf hh rf) 8, .inl (c_work, 156, .inr (.inr (.inr (.inr (fun k => some (hh k))))))), ((px_rf hh rf) 9, .inl (c_small, 156, .inl v11))] : va_W) ++ px_np hh qq cN v12) := hD
            have hP := hP.part (cx := [(h0, .inr (8, px_mf (px_rf hh rf) v10)), ((px_rf hh rf) 8, .inl (c_work, 156, .inr (.inr (.inr (.inr (fun k => some (hh k))))))), ((px_rf hh rf) 9, .inl (c_small, 156, .inl v11)), ((px_rf hh rf) 19, .inl (c_elements, 26, .inl g_elements)), ((px_rf hh rf) 21, .inl (c_ranks, 26, .inl g_ranks)), ((px_rf hh rf) 22, .inl (c_kept, 89856, .inl g_kept)), ((px_rf hh rf) 23, .inl (c_keptSmall, 3744, .inl g_keptSmall))]) [4, 5, 6, 0, 1, 2, 3] rfl
            have hD := hD.part (cx := [(h0, .inr (8, px_mf (px_rf hh rf) v10)), ((px_rf hh rf) 8, .inl (c_work, 156, .inr (.inr (.inr (.inr (fun k => some (hh k))))))), ((px_rf hh rf) 9, .inl (c_small, 156, .inl v11)), ((px_rf hh rf) 19, .inl (c_elements, 26, .inl g_elements)), ((px_rf hh rf) 21, .inl (c_ranks, 26, .inl g_ranks)), ((px_rf hh rf) 22, .inl (c_kept, 89856, .inl g_kept)), ((px_rf hh rf) 23, .inl (c_keptSmall, 3744, .inl g_keptSmall))]) [4, 5, 6, 0, 1, 2, 3] (by decide) rfl
            obtain ⟨z14, ez14⟩ : ∃ y : Int32, y = x4 + 1 := ⟨_, rfl⟩
            have hw := hw z14 ez14
            refine lv_iinc (v := z14) (lv' := [(4, .int z14), (0, .ref h0), (1, .int x1), (2, .int x2), (3, .int x3)]) hx hb px_d67_35 hl (k := 4) rfl (by rw [ez14]; rfl) (by decide) rfl (fun ls hl => ?_)
            refine lv_goto (tgt := 15) hx hb px_d67_38 (by decide) ?_
            exact ih15 x1 x2 x3 z14 v10 v11 g_elements g_ranks g_kept g_keptSmall v12 H locs ls hP hD hS (lv_sub hl [1, 2, 3, 4, 0] rfl) hw
      intro x1 x2 x3 iv g_small g_elements g_ranks g_kept g_keptSmall nv H locs ls hP hD hS hl hw
      unfold w67_L2 at hw
      refine lv_iload_n hx hb px_d67_2 rfl (lv_at hl 3 rfl) ?_
      refine lv_aload_n hx hb px_d67_3 rfl (lv_at hl 0 rfl) ?_
      refine va_get (D := (dC, dI)) (ci := 8) (v := .ref ((px_rf hh rf) 21)) (C := "MatroidDeskModel") (T := px_T8) (N := 53) hx hb htw px_in8 hown hK hP 0 rfl rfl 21 (by decide) (htw _ px_w504) (fun _ h9 => h9) rfl px_d67_4 ?_
      refine lv_iload_n hx hb px_d67_7 rfl (lv_at hl 1 rfl) ?_
      obtain ⟨hi8, hw⟩ := hw
      refine va_iald hx hb hK hP 4 3 rfl rfl hi8 px_d67_8 ?_
      refine lv_icmp_ge (tgt := 93) hx hb px_d67_9 (by decide) (fun c9 => ?_) (fun c9 => ?_)
      · have hw := hw.1 c9
        rw [← hQ]
        exact W.vret hx hb hr (fun t ht hW => ⟨⟨(iv, g_small, g_elements, g_ranks, g_kept, g_keptSmall, nv), rfl, hw, by rw [ht]; exact hP, va_K.moved hW.alike hK, hD⟩, hS.F ht⟩) hS.2.2 px_d67_93
      · have hw := hw.2 c9
        refine lv_iconst (v := 0) hx hb px_d67_12 (by decide) ?_
        refine lv_istore (lv' := [(4, .int 0), (0, .ref h0), (1, .int x1), (2, .int x2), (3, .int x3)]) hx hb px_d67_13 hl (by decide) rfl (fun ls hl => ?_)
        obtain ⟨k9, hw⟩ := hw
        exact S15 k9 x1 x2 x3 0 iv g_small g_elements g_ranks g_kept g_keptSmall nv H locs ls hP hD hS (lv_sub hl [1, 2, 3, 4, 0] rfl) hw
  unfold w67_wp at hw
  have hS0 := hS
  obtain ⟨H, hH9⟩ : ∃ z, z = s.heap := ⟨_, rfl⟩
  have hP : va_P (dC, dI) vwCl (([(h0, .inr (8, px_mf (px_rf hh rf) iv)), ((px_rf hh rf) 8, .inl (c_work, 156, .inr (.inr (.inr (.inr (fun k => some (hh k))))))), ((px_rf hh rf) 9, .inl (c_small, 156, .inl g_small)), ((px_rf hh rf) 19, .inl (c_elements, 26, .inl g_elements)), ((px_rf hh rf) 21, .inl (c_ranks, 26, .inl g_ranks)), ((px_rf hh rf) 22, .inl (c_kept, 89856, .inl g_kept)), ((px_rf hh rf) 23, .inl (c_keptSmall, 3744, .inl g_keptSmall))] : va_W) ++ px_np hh qq cN nv) H := by rw [hH9]; exact hP
  obtain ⟨locs, hlo9⟩ : ∃ z : List Loc, z = [] := ⟨_, rfl⟩
  have hS : va_S A s.heap H locs := by rw [hH9, hlo9]; exact hS
  suffices hG : W p l e (headSpec px_s67 ({ frames := 3, cells := 0, slots := 0, locals := 68 })).room s m ([.ref h0, .int a1x, .int a2x]).toArray below meth c H locs 0 0 Q (F0 m 0 ls []) by rw [hH9, hlo9] at hG; exact hG
  refine lv_iconst (v := 0) hx hb px_d67_0 (by decide) ?_
  refine lv_istore_n (lv' := [(3, .int 0), (0, .ref h0), (1, .int a1x), (2, .int a2x)]) hx hb px_d67_1 rfl hl (by decide) rfl (fun ls hl => ?_)
  obtain ⟨k9, hw⟩ := hw
  exact S2 k9 a1x a2x 0 iv g_small g_elements g_ranks g_kept g_keptSmall nv H locs ls hP hD hS (lv_sub hl [1, 2, 3, 0] rfl) hw

