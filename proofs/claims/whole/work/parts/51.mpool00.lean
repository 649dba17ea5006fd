/-! MatroidDeskModel$Num.less(LMatroidDeskModel$Num;LMatroidDeskModel$Num;)V -/
def w17_L338 (a0x : Nat) (a1x : Nat) (a2x : Nat) (post : (Nat → px_NV) → Prop) (x3 : Int32) (x4 : Int32) (x5 : Nat) (x6 : Nat) (x7 : Int32) (x8 : Int32) (y0 : Int32) (nv : Nat → px_NV) : Prop := a0x < 200 ∧ ((narrow .boolean (.int y0) = .int y0 ∧ fits .boolean (.int y0) = true) ∧ (∀ nv1 : Nat → px_NV, nv1 = va_up nv a0x ⟨(nv a0x).1, y0, (nv a0x).2.2⟩ → (px_ix [a0x] ∧ (nt_wp (fun v2 v3 v4 => ∀ nv6 : Nat → px_NV, nv6 = px_fold nv1 [(a0x, ⟨v2, v3, v4⟩)] → (post nv6)) ((nv1 a0x).1) ((nv1 a0x).2.1) ((nv1 a0x).2.2)))))
def w17_L292 (K236 : Int32 → Int32 → Nat → Nat → Int32 → Int32 → (Nat → px_NV) → Prop) (a0x : Nat) (a1x : Nat) (a2x : Nat) (post : (Nat → px_NV) → Prop) (x3 : Int32) (x4 : Int32) (x5 : Nat) (x6 : Nat) (x7 : Int32) (x8 : Int32) (x9 : Int32) (y0 : Int32) (nv : Nat → px_NV) : Prop := a0x < 200 ∧ (∀ z7 : Int32, z7 = x9 + (65536 * y0) → a0x < 200 ∧ (vp_in x8 160 ∧ (∀ nv8 : Nat → px_NV, nv8 = va_up nv a0x ⟨(nv a0x).1, (nv a0x).2.1, upd (nv a0x).2.2 (Int32.toNatClampNeg x8) z7⟩ → (∀ z9 : Int32, z9 = x8 + 1 → K236 x3 x4 x5 x6 y0 z9 nv8))))
def w17_L276 (K236 : Int32 → Int32 → Nat → Nat → Int32 → Int32 → (Nat → px_NV) → Prop) (a0x : Nat) (a1x : Nat) (a2x : Nat) (post : (Nat → px_NV) → Prop) (x3 : Int32) (x4 : Int32) (x5 : Nat) (x6 : Nat) (x7 : Int32) (x8 : Int32) (y0 : Int32) (y1 : Int32) (nv : Nat → px_NV) : Prop := ∀ z10 : Int32, z10 = (y1 - y0) - x7 → (0 ≤ z10 → w17_L292 K236 a0x a1x a2x post x3 x4 x5 x6 x7 x8 z10 0 nv) ∧ (¬ 0 ≤ z10 → w17_L292 K236 a0x a1x a2x post x3 x4 x5 x6 x7 x8 z10 1 nv)
def w17_L236 (a0x : Nat) (a1x : Nat) (a2x : Nat) (post : (Nat → px_NV) → Prop) : Nat → Int32 → Int32 → Nat → Nat → Int32 → Int32 → (Nat → px_NV) → Prop
  | 0 => fun _ _ _ _ _ _ _ => False
  | k + 1 => fun x3 x4 x5 x6 x7 x8 nv => x5 < 200 ∧ ((((nv x5).1) ≤ x8 → x5 < 200 ∧ (∀ z11 : Int32, z11 = (nv x5).1 → a0x < 200 ∧ ((∀ nv12 : Nat → px_NV, nv12 = va_up nv a0x ⟨z11, (nv a0x).2.1, (nv a0x).2.2⟩ → ((x4 = 0 → w17_L338 a0x a1x a2x post x3 x4 x5 x6 x7 x8 x3 nv12) ∧ (¬ x4 = 0 → a1x < 200 ∧ (w17_L338 a0x a1x a2x post x3 x4 x5 x6 x7 x8 ((nv12 a1x).2.1) nv12))))))) ∧ (¬ ((nv x5).1) ≤ x8 → x5 < 200 ∧ (x5 < 200 ∧ (vp_in x8 160 ∧ (x6 < 200 ∧ ((((nv x6).1) ≤ x8 → w17_L276 (w17_L236 a0x a1x a2x post k) a0x a1x a2x post x3 x4 x5 x6 x7 x8 0 ((nv x5).2.2 (Int32.toNatClampNeg x8)) nv) ∧ (¬ ((nv x6).1) ≤ x8 → x6 < 200 ∧ (x6 < 200 ∧ (vp_in x8 160 ∧ (w17_L276 (w17_L236 a0x a1x a2x post k) a0x a1x a2x post x3 x4 x5 x6 x7 x8 ((nv x6).2.2 (Int32.toNatClampNeg x8)) ((nv x5).2.2 (Int32.toNatClampNeg x8)) nv))))))))))
def w17_L228 (a0x : Nat) (a1x : Nat) (a2x : Nat) (post : (Nat → px_NV) → Prop) (x3 : Int32) (x4 : Int32) (x5 : Nat) (y0 : Nat) (nv : Nat → px_NV) : Prop := ∃ j236, w17_L236 a0x a1x a2x post j236 x3 x4 x5 y0 0 0 nv
def w17_L216 (a0x : Nat) (a1x : Nat) (a2x : Nat) (post : (Nat → px_NV) → Prop) (x3 : Int32) (x4 : Int32) (y0 : Nat) (nv : Nat → px_NV) : Prop := (x4 = 0 → w17_L228 a0x a1x a2x post x3 x4 y0 a1x nv) ∧ (¬ x4 = 0 → w17_L228 a0x a1x a2x post x3 x4 y0 a2x nv)
def w17_L204 (a0x : Nat) (a1x : Nat) (a2x : Nat) (post : (Nat → px_NV) → Prop) (x3 : Int32) (y0 : Int32) (nv : Nat → px_NV) : Prop := (y0 = 0 → w17_L216 a0x a1x a2x post x3 y0 a2x nv) ∧ (¬ y0 = 0 → w17_L216 a0x a1x a2x post x3 y0 a1x nv)
def w17_L183 (a0x : Nat) (a1x : Nat) (a2x : Nat) (post : (Nat → px_NV) → Prop) (x3 : Int32) (x4 : Int32) (x5 : Int32) (x6 : Int32) (y0 : Int32) (nv : Nat → px_NV) : Prop := a0x < 200 ∧ ((narrow .boolean (.int y0) = .int y0 ∧ fits .boolean (.int y0) = true) ∧ (∀ nv13 : Nat → px_NV, nv13 = va_up nv a0x ⟨(nv a0x).1, y0, (nv a0x).2.2⟩ → (px_ix [a0x] ∧ (nt_wp (fun v14 v15 v16 => ∀ nv18 : Nat → px_NV, nv18 = px_fold nv13 [(a0x, ⟨v14, v15, v16⟩)] → (post nv18)) ((nv13 a0x).1) ((nv13 a0x).2.1) ((nv13 a0x).2.2)))))
def w17_L121 (K72 : Int32 → Int32 → Int32 → Int32 → (Nat → px_NV) → Prop) (a0x : Nat) (a1x : Nat) (a2x : Nat) (post : (Nat → px_NV) → Prop) (x3 : Int32) (x4 : Int32) (x5 : Int32) (x6 : Int32) (y0 : Int32) (y1 : Int32) (y2 : Int32) (nv : Nat → px_NV) : Prop := ∀ z19 : Int32, z19 = y2 + (y1 + y0) → a0x < 200 ∧ (∀ z20 : Int32, z20 = z19 - z19 / 65536 * 65536 → a0x < 200 ∧ (vp_in x6 160 ∧ (∀ nv21 : Nat → px_NV, nv21 = va_up nv a0x ⟨(nv a0x).1, (nv a0x).2.1, upd (nv a0x).2.2 (Int32.toNatClampNeg x6) z20⟩ → (∀ z22 : Int32, z22 = z19 / 65536 → ∀ z23 : Int32, z23 = x6 + 1 → K72 x3 x4 z22 z23 nv21))))
def w17_L101 (K72 : Int32 → Int32 → Int32 → Int32 → (Nat → px_NV) → Prop) (a0x : Nat) (a1x : Nat) (a2x : Nat) (post : (Nat → px_NV) → Prop) (x3 : Int32) (x4 : Int32) (x5 : Int32) (x6 : Int32) (y0 : Int32) (y1 : Int32) (nv : Nat → px_NV) : Prop := a2x < 200 ∧ ((((nv a2x).1) ≤ x6 → w17_L121 K72 a0x a1x a2x post x3 x4 x5 x6 0 y0 y1 nv) ∧ (¬ ((nv a2x).1) ≤ x6 → a2x < 200 ∧ (a2x < 200 ∧ (vp_in x6 160 ∧ (w17_L121 K72 a0x a1x a2x post x3 x4 x5 x6 ((nv a2x).2.2 (Int32.toNatClampNeg x6)) y0 y1 nv)))))
def w17_L72 (a0x : Nat) (a1x : Nat) (a2x : Nat) (post : (Nat → px_NV) → Prop) : Nat → Int32 → Int32 → Int32 → Int32 → (Nat → px_NV) → Prop
  | 0 => fun _ _ _ _ _ => False
  | k + 1 => fun x3 x4 x5 x6 nv => (x4 ≤ x6 → a0x < 200 ∧ (a0x < 200 ∧ (vp_in x4 160 ∧ (∀ nv24 : Nat → px_NV, nv24 = va_up nv a0x ⟨(nv a0x).1, (nv a0x).2.1, upd (nv a0x).2.2 (Int32.toNatClampNeg x4) x5⟩ → (∀ z25 : Int32, z25 = x4 + 1 → a0x < 200 ∧ ((∀ nv26 : Nat → px_NV, nv26 = va_up nv24 a0x ⟨z25, (nv24 a0x).2.1, (nv24 a0x).2.2⟩ → (a1x < 200 ∧ ((¬ ((nv26 a1x).1) = 0 → a1x < 200 ∧ (w17_L183 a0x a1x a2x post x3 x4 x5 x6 ((nv26 a1x).2.1) nv26)) ∧ (((nv26 a1x).1) = 0 → w17_L183 a0x a1x a2x post x3 x4 x5 x6 x3 nv26)))))))))) ∧ (¬ x4 ≤ x6 → a1x < 200 ∧ ((((nv a1x).1) ≤ x6 → w17_L101 (w17_L72 a0x a1x a2x post k) a0x a1x a2x post x3 x4 x5 x6 0 x5 nv) ∧ (¬ ((nv a1x).1) ≤ x6 → a1x < 200 ∧ (a1x < 200 ∧ (vp_in x6 160 ∧ (w17_L101 (w17_L72 a0x a1x a2x post k) a0x a1x a2x post x3 x4 x5 x6 ((nv a1x).2.2 (Int32.toNatClampNeg x6)) x5 nv))))))
def w17_L64 (a0x : Nat) (a1x : Nat) (a2x : Nat) (post : (Nat → px_NV) → Prop) (x3 : Int32) (y0 : Int32) (nv : Nat → px_NV) : Prop := ∃ j72, w17_L72 a0x a1x a2x post j72 x3 y0 0 0 nv
def w17_L42 (a0x : Nat) (a1x : Nat) (a2x : Nat) (post : (Nat → px_NV) → Prop) (x3 : Int32) (nv : Nat → px_NV) : Prop := a1x < 200 ∧ (a2x < 200 ∧ ((((nv a1x).1) ≤ ((nv a2x).1) → a2x < 200 ∧ (w17_L64 a0x a1x a2x post x3 ((nv a2x).1) nv)) ∧ (¬ ((nv a1x).1) ≤ ((nv a2x).1) → a1x < 200 ∧ (w17_L64 a0x a1x a2x post x3 ((nv a1x).1) nv))))
def w17_L19 (a0x : Nat) (a1x : Nat) (a2x : Nat) (post : (Nat → px_NV) → Prop) (y0 : Int32) (nv : Nat → px_NV) : Prop := a1x < 200 ∧ ((((nv a1x).1) = 0 → w17_L42 a0x a1x a2x post y0 nv) ∧ (¬ ((nv a1x).1) = 0 → a2x < 200 ∧ ((((nv a2x).1) = 0 → w17_L42 a0x a1x a2x post y0 nv) ∧ (¬ ((nv a2x).1) = 0 → a1x < 200 ∧ ((¬ ((nv a1x).2.1) = y0 → px_ix [a1x, a2x] ∧ (ncs_wp (fun r193 v27 v28 v29 v30 v31 v32 => ∀ nv34 : Nat → px_NV, nv34 = px_fold nv [(a1x, ⟨v27, v28, v29⟩), (a2x, ⟨v30, v31, v32⟩)] → ((r193 < 0 → w17_L204 a0x a1x a2x post y0 0 nv34) ∧ (¬ r193 < 0 → w17_L204 a0x a1x a2x post y0 1 nv34))) ((nv a1x).1) ((nv a1x).2.1) ((nv a1x).2.2) ((nv a2x).1) ((nv a2x).2.1) ((nv a2x).2.2))) ∧ (((nv a1x).2.1) = y0 → w17_L42 a0x a1x a2x post y0 nv))))))
def w17_L18 (a0x : Nat) (a1x : Nat) (a2x : Nat) (post : (Nat → px_NV) → Prop) (nv : Nat → px_NV) : Prop := w17_L19 a0x a1x a2x post 0 nv
def w17_wp (a0x : Nat) (a1x : Nat) (a2x : Nat) (post : (Nat → px_NV) → Prop) (nv : Nat → px_NV) : Prop := a2x < 200 ∧ ((((nv a2x).1) ≤ 0 → w17_L18 a0x a1x a2x post nv) ∧ (¬ ((nv a2x).1) ≤ 0 → a2x < 200 ∧ ((¬ ((nv a2x).2.1) = 0 → w17_L18 a0x a1x a2x post nv) ∧ (((nv a2x).2.1) = 0 → w17_L19 a0x a1x a2x post 1 nv))))
set_option maxHeartbeats 8000000 in
set_option maxRecDepth 100000 in
theorem w17_met (l : Launch) (dC : Nat → ClassId) (dI : Nat → Nat → Nat) (sz : Nat) (a0x : Nat) (hh : Nat → Nat) (qq : Nat → Nat) (cN : ClassId) (a1x : Nat) (a2x : Nat) (nv : Nat → px_NV) (post : (Nat → px_NV) → Prop) (hw : w17_wp a0x a1x a2x post nv) : Met l px_y17 px_s17 ({ frames := 1, cells := 0, slots := 0, locals := 22 }) (va_Pc [.ref (hh a0x), .ref (hh a1x), .ref (hh a2x)] (fun U => U.heap.size = sz ∧ va_P (dC, dI) vwCl (([] : va_W) ++ px_np hh qq cN nv) U.heap ∧ va_K (dC, dI) vwCl [(cN, .int)] U ∧ va_D (fun _ => True) (([] : va_W) ++ px_np hh qq cN nv) ∧ px_N U)) (va_Qv (fun (u : (Nat → px_NV)) => post u) (fun (u : (Nat → px_NV)) (t : State) => va_P (dC, dI) vwCl (([] : va_W) ++ px_np hh qq cN u) t.heap ∧ va_K (dC, dI) vwCl [(cN, .int)] t ∧ va_D (va_A (([] : va_W) ++ px_np hh qq cN nv) sz) (([] : va_W) ++ px_np hh qq cN u)) (va_A (([] : va_W) ++ px_np hh qq cN nv) sz)) 0 0 (va_A (([] : va_W) ++ px_np hh qq cN nv) sz) := by
  refine Met.ofW (cc := prog_16_method_10_code) (maxL := 10) (ret := none) (by decide) rfl ?_
  intro p e s m args below meth c s₁ B hml hv
  obtain ⟨rfl, hsz, hP, hK, hD0, hN⟩ := hv
  have hx := B.exec
  have hb := B.bytes
  have hr := B.returns
  have htw : ∀ w ∈ px_all, w.before _ s = true := fun w h => atoms_spec (ws := px_s17) B.pre w (List.mem_cons_of_mem _ h)
  have hown : s.vm.findClass "MatroidDeskModel$Num" = some m.cls := findClass_of_methodNamed B.named
  have hlocks := B.notSynchronized
  subst hsz
  have hD := hD0.self (sz := s.heap.size)
  generalize hAe : va_A (([] : va_W) ++ px_np hh qq cN nv) s.heap.size = A at hD ⊢
  have hA : ∀ q : Nat, s.heap.size ≤ q → A q := fun q h => by rw [← hAe]; exact Or.inr h
  have hS : va_S A s.heap s.heap [] := va_S.rf
  have hP : va_P (dC, dI) vwCl (([] : va_W) ++ px_np hh qq cN nv) s.heap := hP
  have hl := lv_entry ([.ref (hh a0x), .ref (hh a1x), .ref (hh a2x)]) (n := 10) (Nat.le_of_ble_eq_true rfl)
  rw [lg_entry_eq]
  generalize (lg_sl ([.ref (hh a0x), .ref (hh a1x), .ref (hh a2x)]) ++ List.replicate (10 - (lg_sl ([.ref (hh a0x), .ref (hh a1x), .ref (hh a2x)])).length) Slot.unset).toArray = ls at hl ⊢
  have hl : lv_has ls 10 [(0, .ref (hh a0x)), (1, .ref (hh a1x)), (2, .ref (hh a2x))] := hl
  generalize hQ : MQ _ _ _ _ _ _ _ = Q
  have S338 : ∀ (x3 : Int32) (x4 : Int32) (x5 : Nat) (x6 : Nat) (x7 : Int32) (x8 : Int32) (y0 : Int32) (nv : Nat → px_NV) (H : Heap) (locs : List Loc) (ls : Array Slot), va_P (dC, dI) vwCl (([] : va_W) ++ px_np hh qq cN nv) H → va_D A (([] : va_W) ++ px_np hh qq cN nv) → va_S A s.heap H locs → lv_has ls 10 [(0, .ref (hh a0x)), (1, .ref (hh a1x)), (2, .ref (hh a2x)), (3, .int x3), (4, .int x4), (5, .ref (hh x5)), (6, .ref (hh x6)), (7, .int x7), (8, .int x8)] → w17_L338 a0x a1x a2x post x3 x4 x5 x6 x7 x8 y0 nv → W p l e (headSpec px_s17 ({ frames := 1, cells := 0, slots := 0, locals := 22 })).room s m ([.ref (hh a0x), .ref (hh a1x), .ref (hh a2x)]).toArray below meth c H locs 0 0 Q (F0 m 338 ls [.int y0, .ref (hh a0x)]) := by
    intro x3 x4 x5 x6 x7 x8 y0 nv H locs ls hP hD hS hl hw
    unfold w17_L338 at hw
    obtain ⟨hp338, hw⟩ := hw
    obtain ⟨hz338, hw⟩ := hw
    obtain ⟨nv1, env1⟩ : ∃ z : Nat → px_NV, z = va_up nv a0x ⟨(nv a0x).1, y0, (nv a0x).2.2⟩ := ⟨_, rfl⟩
    refine va_put (D := (dC, dI)) (ci := 9) (v := .int y0) (ty := .boolean) (C := "MatroidDeskModel$Num") (T := px_T9) (N := 3) hx hb htw px_in9 px_ty9 px_tyok9 px_nm9 hown hK hP hD hS (0 + a0x) (px_go rfl hp338) rfl 2 (by decide) (htw _ px_w272) (fun _ h9 => h9) rfl (by decide +kernel) (hz338).1 (hz338).2 (Nat.le_of_ble_eq_true rfl) px_d17_338 (fun H locs hP hD hS => ?_)
    have hP : va_P (dC, dI) vwCl (([] : va_W) ++ px_np hh qq cN nv1) H := px_soP rfl hp338 env1 hP
    have hD : va_D A (([] : va_W) ++ px_np hh qq cN nv1) := px_soD rfl hp338 env1 hD
    have hw := hw nv1 env1
    refine lv_aload_n hx hb px_d17_341 rfl (lv_at hl 0 rfl) ?_
    obtain ⟨hk342, hw⟩ := hw
    have hPc : va_P (dC, dI) vwCl [(hh a0x, .inr (9, [.ref (qq a0x), .int ((nv1 a0x).1), .int ((nv1 a0x).2.1)])), (qq a0x, .inl (cN, 160, .inl ((nv1 a0x).2.2)))] H := px_outP hP [a0x] hk342
    have hDc : va_D A [(hh a0x, .inr (9, [.ref (qq a0x), .int ((nv1 a0x).1), .int ((nv1 a0x).2.1)])), (qq a0x, .inl (cN, 160, .inl ((nv1 a0x).2.2)))] := px_outD hD [a0x] hk342
    have hFc : ∀ q, va_A [(hh a0x, .inr (9, [.ref (qq a0x), .int ((nv1 a0x).1), .int ((nv1 a0x).2.1)])), (qq a0x, .inl (cN, 160, .inl ((nv1 a0x).2.2)))] H.size q → A q := px_outF hD hS hA [a0x] hk342
    have hKc := hK.sub (tys' := [(cN, .int)]) [0] rfl
    refine va_callv (va_runV (As := []) (rest := []) ⟨hx, hb, hml, hown, htw⟩ (nt_met l dC dI H.size (hh a0x) (qq a0x) cN ((nv1 a0x).1) ((nv1 a0x).2.1) ((nv1 a0x).2.2) _ hw) (cwV 0 htw (px_gv px_w300 px_w291 px_w292 px_w149 px_g15) rfl rfl rfl (by decide +kernel) ⟨Nat.le_of_ble_eq_true rfl, Nat.le_of_ble_eq_true rfl⟩) ⟨fun a U g mk q => by obtain ⟨q0, q1, qP, qK, qD, qN⟩ := q; exact ⟨q0, q1, qP, va_K.moved (u := U) (U := U.calling g mk a) (Vm.Alike.refl U.vm) qK, qD, qN.same rfl⟩, va_recv hK hPc (ci := 9) (q0 := 0) rfl rfl, fun U hU hW => ⟨rfl, by rw [hU], by rw [hU]; exact hPc, va_K.moved hW.alike hKc, hDc.weaken (fun _ _ _ _ => trivial), hN.warm hW⟩⟩ rfl rfl hl.1 rfl (lv_room (Nat.le_of_ble_eq_true rfl)) px_d17_342 ⟨(Nat.le_of_ble_eq_true rfl), (Nat.le_of_ble_eq_true rfl)⟩) hS (fun q _ h => hFc q h) hFc (fun u t H1 locs ht hvm hw hB hz1 hk1 hS => ?_)
    obtain ⟨v2, v3, v4⟩ := u
    obtain ⟨hP1, hK1, hD1⟩ := hB
    rw [ht] at hP1
    obtain ⟨nv6, env6⟩ : ∃ z : Nat → px_NV, z = px_fold nv1 [(a0x, ⟨v2, v3, v4⟩)] := ⟨_, rfl⟩
    have hw := hw nv6 env6
    obtain ⟨hP, hD⟩ := px_in hP hD [a0x] hk342 [(a0x, ⟨v2, v3, v4⟩)] rfl hk1 hP1 env6
    generalize H1 = H at hP hS ⊢
    have hP : va_P (dC, dI) vwCl (([] : va_W) ++ px_np hh qq cN nv6) H := hP
    have hD : va_D A (([] : va_W) ++ px_np hh qq cN nv6) := hD
    rw [← hQ]
    exact W.vret hx hb hr (fun t ht hW => ⟨⟨nv6, rfl, hw, by rw [ht]; exact hP, va_K.moved hW.alike hK, hD⟩, hS.F ht⟩) hS.2.2 px_d17_345
  have S236 : ∀ (k236 : Nat) (x3 : Int32) (x4 : Int32) (x5 : Nat) (x6 : Nat) (x7 : Int32) (x8 : Int32) (nv : Nat → px_NV) (H : Heap) (locs : List Loc) (ls : Array Slot), va_P (dC, dI) vwCl (([] : va_W) ++ px_np hh qq cN nv) H → va_D A (([] : va_W) ++ px_np hh qq cN nv) → va_S A s.heap H locs → lv_has ls 10 [(0, .ref (hh a0x)), (1, .ref (hh a1x)), (2, .ref (hh a2x)), (3, .int x3), (4, .int x4), (5, .ref (hh x5)), (6, .ref (hh x6)), (7, .int x7), (8, .int x8)] → w17_L236 a0x a1x a2x post k236 x3 x4 x5 x6 x7 x8 nv → W p l e (headSpec px_s17 ({ frames := 1, cells := 0, slots := 0, locals := 22 })).room s m ([.ref (hh a0x), .ref (hh a1x), .ref (hh a2x)]).toArray below meth c H locs 0 0 Q (F0 m 236 ls []) := by
    intro k236
    induction k236 with
    | zero => intro x3 x4 x5 x6 x7 x8 nv H locs ls hP hD hS hl hw; exact False.elim hw
    | succ k236 ih236 =>
      have S292 : ∀ (x3 : Int32) (x4 : Int32) (x5 : Nat) (x6 : Nat) (x7 : Int32) (x8 : Int32) (x9 : Int32) (y0 : Int32) (nv : Nat → px_NV) (H : Heap) (locs : List Loc) (ls : Array Slot), va_P (dC, dI) vwCl (([] : va_W) ++ px_np hh qq cN nv) H → va_D A (([] : va_W) ++ px_np hh qq cN nv) → va_S A s.heap H locs → lv_has ls 10 [(0, .ref (hh a0x)), (1, .ref (hh a1x)), (2, .ref (hh a2x)), (3, .int x3), (4, .int x4), (5, .ref (hh x5)), (6, .ref (hh x6)), (7, .int x7), (8, .int x8), (9, .int x9)] → w17_L292 (w17_L236 a0x a1x a2x post k236) a0x a1x a2x post x3 x4 x5 x6 x7 x8 x9 y0 nv → W p l e (headSpec px_s17 ({ frames := 1, cells := 0, slots := 0, locals := 22 })).room s m ([.ref (hh a0x), .ref (hh a1x), .ref (hh a2x)]).toArray below meth c H locs 0 0 Q (F0 m 292 ls [.int y0]) := by
        intro x3 x4 x5 x6 x7 x8 x9 y0 nv H locs ls hP hD hS hl hw
        unfold w17_L292 at hw
        refine lv_istore (lv' := [(7, .int y0), (0, .ref (hh a0x)), (1, .ref (hh a1x)), (2, .ref (hh a2x)), (3, .int x3), (4, .int x4), (5, .ref (hh x5)), (6, .ref (hh x6)), (8, .int x8), (9, .int x9)]) hx hb px_d17_292 hl (by decide) rfl (fun ls hl => ?_)
        refine lv_aload_n hx hb px_d17_294 rfl (lv_at hl 1 rfl) ?_
        obtain ⟨hp295, hw⟩ := hw
        refine va_get (D := (dC, dI)) (ci := 9) (v := .ref (qq a0x)) (C := "MatroidDeskModel$Num") (T := px_T9) (N := 3) hx hb htw px_in9 hown hK hP (0 + a0x) (px_go rfl hp295) rfl 0 (by decide) (htw _ px_w267) (fun _ h9 => h9) rfl px_d17_295 ?_
        refine lv_iload hx hb px_d17_298 (lv_at hl 8 rfl) ?_
        refine lv_iload hx hb px_d17_300 (lv_at hl 9 rfl) ?_
        refine lv_ldc hx hb (own := "MatroidDeskModel$Num") (index := 26) (v := 65536) hown (htw _ px_w299) px_d17_302 ?_
        refine lv_iload hx hb px_d17_304 (lv_at hl 0 rfl) ?_
        refine lv_imul hx hb px_d17_306 ?_
        refine lv_iadd hx hb px_d17_307 ?_
        refine lv_topi (fun z7 ez7 => ?_)
        have hw := hw z7 ez7
        obtain ⟨hp308, hw⟩ := hw
        obtain ⟨hi308, hw⟩ := hw
        obtain ⟨nv8, env8⟩ : ∃ z : Nat → px_NV, z = va_up nv a0x ⟨(nv a0x).1, (nv a0x).2.1, upd (nv a0x).2.2 (Int32.toNatClampNeg x8) z7⟩ := ⟨_, rfl⟩
        refine va_iast hx hb hK hP hD hS (0 + (200 + a0x)) 0 (px_ga rfl hp308) rfl hi308 px_d17_308 (fun H locs hP hD hS => ?_)
        have hP : va_P (dC, dI) vwCl (([] : va_W) ++ px_np hh qq cN nv8) H := px_saP rfl hp308 env8 hP
        have hD : va_D A (([] : va_W) ++ px_np hh qq cN nv8) := px_saD rfl hp308 env8 hD
        have hw := hw nv8 env8
        obtain ⟨z9, ez9⟩ : ∃ y : Int32, y = x8 + 1 := ⟨_, rfl⟩
        have hw := hw z9 ez9
        refine lv_iinc (v := z9) (lv' := [(8, .int z9), (7, .int y0), (0, .ref (hh a0x)), (1, .ref (hh a1x)), (2, .ref (hh a2x)), (3, .int x3), (4, .int x4), (5, .ref (hh x5)), (6, .ref (hh x6)), (9, .int x9)]) hx hb px_d17_309 hl (k := 8) rfl (by rw [ez9]; rfl) (by decide) rfl (fun ls hl => ?_)
        refine lv_goto (tgt := 236) hx hb px_d17_312 (by decide) ?_
        exact ih236 x3 x4 x5 x6 y0 z9 nv8 H locs ls hP hD hS (lv_sub hl [2, 3, 4, 5, 6, 7, 8, 1, 0] rfl) hw
      have S276 : ∀ (x3 : Int32) (x4 : Int32) (x5 : Nat) (x6 : Nat) (x7 : Int32) (x8 : Int32) (y0 : Int32) (y1 : Int32) (nv : Nat → px_NV) (H : Heap) (locs : List Loc) (ls : Array Slot), va_P (dC, dI) vwCl (([] : va_W) ++ px_np hh qq cN nv) H → va_D A (([] : va_W) ++ px_np hh qq cN nv) → va_S A s.heap H locs → lv_has ls 10 [(0, .ref (hh a0x)), (1, .ref (hh a1x)), (2, .ref (hh a2x)), (3, .int x3), (4, .int x4), (5, .ref (hh x5)), (6, .ref (hh x6)), (7, .int x7), (8, .int x8)] → w17_L276 (w17_L236 a0x a1x a2x post k236) a0x a1x a2x post x3 x4 x5 x6 x7 x8 y0 y1 nv → W p l e (headSpec px_s17 ({ frames := 1, cells := 0, slots := 0, locals := 22 })).room s m ([.ref (hh a0x), .ref (hh a1x), .ref (hh a2x)]).toArray below meth c H locs 0 0 Q (F0 m 276 ls [.int y0, .int y1]) := by
        intro x3 x4 x5 x6 x7 x8 y0 y1 nv H locs ls hP hD hS hl hw
        unfold w17_L276 at hw
        refine lv_isub hx hb px_d17_276 ?_
        refine lv_iload hx hb px_d17_277 (lv_at hl 7 rfl) ?_
        refine lv_isub hx hb px_d17_279 ?_
        refine lv_topi (fun z10 ez10 => ?_)
        have hw := hw z10 ez10
        refine lv_istore (lv' := [(9, .int z10), (0, .ref (hh a0x)), (1, .ref (hh a1x)), (2, .ref (hh a2x)), (3, .int x3), (4, .int x4), (5, .ref (hh x5)), (6, .ref (hh x6)), (7, .int x7), (8, .int x8)]) hx hb px_d17_280 hl (by decide) rfl (fun ls hl => ?_)
        refine lv_iload hx hb px_d17_282 (lv_at hl 0 rfl) ?_
        refine lv_if_ge (tgt := 291) hx hb px_d17_284 (by decide) (fun c284 => ?_) (fun c284 => ?_)
        · have hw := hw.1 c284
          refine lv_iconst (v := 0) hx hb px_d17_291 (by decide) ?_
          exact S292 x3 x4 x5 x6 x7 x8 z10 0 nv H locs ls hP hD hS (lv_sub hl [1, 2, 3, 4, 5, 6, 7, 8, 9, 0] rfl) hw
        · have hw := hw.2 c284
          refine lv_iconst (v := 1) hx hb px_d17_287 (by decide) ?_
          refine lv_goto (tgt := 292) hx hb px_d17_288 (by decide) ?_
          exact S292 x3 x4 x5 x6 x7 x8 z10 1 nv H locs ls hP hD hS (lv_sub hl [1, 2, 3, 4, 5, 6, 7, 8, 9, 0] rfl) hw
      intro x3 x4 x5 x6 x7 x8 nv H locs ls hP hD hS hl hw
      unfold w17_L236 at hw
      refine lv_iload hx hb px_d17_236 (lv_at hl 8 rfl) ?_
      refine lv_aload hx hb px_d17_238 (lv_at hl 5 rfl) ?_
      obtain ⟨hp240, hw⟩ := hw
      refine va_get (D := (dC, dI)) (ci := 9) (v := .int ((nv x5).1)) (C := "MatroidDeskModel$Num") (T := px_T9) (N := 3) hx hb htw px_in9 hown hK hP (0 + x5) (px_go rfl hp240) rfl 1 (by decide) (htw _ px_w271) (fun _ h9 => h9) rfl px_d17_240 ?_
      refine lv_icmp_ge (tgt := 315) hx hb px_d17_243 (by decide) (fun c243 => ?_) (fun c243 => ?_)
      · have hw := hw.1 c243
        refine lv_aload_n hx hb px_d17_315 rfl (lv_at hl 0 rfl) ?_
        refine lv_aload hx hb px_d17_316 (lv_at hl 5 rfl) ?_
        obtain ⟨hp318, hw⟩ := hw
        refine va_get (D := (dC, dI)) (ci := 9) (v := .int ((nv x5).1)) (C := "MatroidDeskModel$Num") (T := px_T9) (N := 3) hx hb htw px_in9 hown hK hP (0 + x5) (px_go rfl hp318) rfl 1 (by decide) (htw _ px_w271) (fun _ h9 => h9) rfl px_d17_318 ?_
        refine lv_topi (fun z11 ez11 => ?_)
        have hw := hw z11 ez11
        obtain ⟨hp321, hw⟩ := hw
        obtain ⟨nv12, env12⟩ : ∃ z : Nat → px_NV, z = va_up nv a0x ⟨z11, (nv a0x).2.1, (nv a0x).2.2⟩ := ⟨_, rfl⟩
        refine va_put (D := (dC, dI)) (ci := 9) (v := .int z11) (ty := .int) (C := "MatroidDeskModel$Num") (T := px_T9) (N := 3) hx hb htw px_in9 px_ty9 px_tyok9 px_nm9 hown hK hP hD hS (0 + a0x) (px_go rfl hp321) rfl 1 (by decide) (htw _ px_w271) (fun _ h9 => h9) rfl (by decide +kernel) rfl rfl (Nat.le_of_ble_eq_true rfl) px_d17_321 (fun H locs hP hD hS => ?_)
        have hP : va_P (dC, dI) vwCl (([] : va_W) ++ px_np hh qq cN nv12) H := px_soP rfl hp321 env12 hP
        have hD : va_D A (([] : va_W) ++ px_np hh qq cN nv12) := px_soD rfl hp321 env12 hD
        have hw := hw nv12 env12
        refine lv_aload_n hx hb px_d17_324 rfl (lv_at hl 0 rfl) ?_
        refine lv_iload hx hb px_d17_325 (lv_at hl 4 rfl) ?_
        refine lv_if_eq (tgt := 337) hx hb px_d17_327 (by decide) (fun c327 => ?_) (fun c327 => ?_)
        · have hw := hw.1 c327
          refine lv_iload_n hx hb px_d17_337 rfl (lv_at hl 3 rfl) ?_
          exact S338 x3 x4 x5 x6 x7 x8 x3 nv12 H locs ls hP hD hS (lv_sub hl [0, 1, 2, 3, 4, 5, 6, 7, 8] rfl) hw
        · have hw := hw.2 c327
          refine lv_aload_n hx hb px_d17_330 rfl (lv_at hl 1 rfl) ?_
          obtain ⟨hp331, hw⟩ := hw
          refine va_get (D := (dC, dI)) (ci := 9) (v := .int ((nv12 a1x).2.1)) (C := "MatroidDeskModel$Num") (T := px_T9) (N := 3) hx hb htw px_in9 hown hK hP (0 + a1x) (px_go rfl hp331) rfl 2 (by decide) (htw _ px_w272) (fun _ h9 => h9) rfl px_d17_331 ?_
          refine lv_goto (tgt := 338) hx hb px_d17_334 (by decide) ?_
          exact S338 x3 x4 x5 x6 x7 x8 ((nv12 a1x).2.1) nv12 H locs ls hP hD hS (lv_sub hl [0, 1, 2, 3, 4, 5, 6, 7, 8] rfl) hw
      · have hw := hw.2 c243
        refine lv_aload hx hb px_d17_246 (lv_at hl 5 rfl) ?_
        obtain ⟨hp248, hw⟩ := hw
        refine va_get (D := (dC, dI)) (ci := 9) (v := .ref (qq x5)) (C := "MatroidDeskModel$Num") (T := px_T9) (N := 3) hx hb htw px_in9 hown hK hP (0 + x5) (px_go rfl hp248) rfl 0 (by decide) (htw _ px_w267) (fun _ h9 => h9) rfl px_d17_248 ?_
        refine lv_iload hx hb px_d17_251 (lv_at hl 8 rfl) ?_
        obtain ⟨hp253, hw⟩ := hw
        obtain ⟨hi253, hw⟩ := hw
        refine va_iald hx hb hK hP (0 + (200 + x5)) 0 (px_ga rfl hp253) rfl hi253 px_d17_253 ?_
        refine lv_iload hx hb px_d17_254 (lv_at hl 8 rfl) ?_
        refine lv_aload hx hb px_d17_256 (lv_at hl 6 rfl) ?_
        obtain ⟨hp258, hw⟩ := hw
        refine va_get (D := (dC, dI)) (ci := 9) (v := .int ((nv x6).1)) (C := "MatroidDeskModel$Num") (T := px_T9) (N := 3) hx hb htw px_in9 hown hK hP (0 + x6) (px_go rfl hp258) rfl 1 (by decide) (htw _ px_w271) (fun _ h9 => h9) rfl px_d17_258 ?_
        refine lv_icmp_ge (tgt := 275) hx hb px_d17_261 (by decide) (fun c261 => ?_) (fun c261 => ?_)
        · have hw := hw.1 c261
          refine lv_iconst (v := 0) hx hb px_d17_275 (by decide) ?_
          exact S276 x3 x4 x5 x6 x7 x8 0 ((nv x5).2.2 (Int32.toNatClampNeg x8)) nv H locs ls hP hD hS (lv_sub hl [0, 1, 2, 3, 4, 5, 6, 7, 8] rfl) hw
        · have hw := hw.2 c261
          refine lv_aload hx hb px_d17_264 (lv_at hl 6 rfl) ?_
          obtain ⟨hp266, hw⟩ := hw
          refine va_get (D := (dC, dI)) (ci := 9) (v := .ref (qq x6)) (C := "MatroidDeskModel$Num") (T := px_T9) (N := 3) hx hb htw px_in9 hown hK hP (0 + x6) (px_go rfl hp266) rfl 0 (by decide) (htw _ px_w267) (fun _ h9 => h9) rfl px_d17_266 ?_
          refine lv_iload hx hb px_d17_269 (lv_at hl 8 rfl) ?_
          obtain ⟨hp271, hw⟩ := hw
          obtain ⟨hi271, hw⟩ := hw
          refine va_iald hx hb hK hP (0 + (200 + x6)) 0 (px_ga rfl hp271) rfl hi271 px_d17_271 ?_
          refine lv_goto (tgt := 276) hx hb px_d17_272 (by decide) ?_
          exact S276 x3 x4 x5 x6 x7 x8 ((nv x6).2.2 (Int32.toNatClampNeg x8)) ((nv x5).2.2 (Int32.toNatClampNeg x8)) nv H locs ls hP hD hS (lv_sub hl [0, 1, 2, 3, 4, 5, 6, 7, 8] rfl) hw
  have S228 : ∀ (x3 : Int32) (x4 : Int32) (x5 : Nat) (y0 : Nat) (nv : Nat → px_NV) (H : Heap) (locs : List Loc) (ls : Array Slot), va_P (dC, dI) vwCl (([] : va_W) ++ px_np hh qq cN nv) H → va_D A (([] : va_W) ++ px_np hh qq cN nv) → va_S A s.heap H locs → lv_has ls 10 [(0, .ref (hh a0x)), (1, .ref (hh a1x)), (2, .ref (hh a2x)), (3, .int x3), (4, .int x4), (5, .ref (hh x5))] → w17_L228 a0x a1x a2x post x3 x4 x5 y0 nv → W p l e (headSpec px_s17 ({ frames := 1, cells := 0, slots := 0, locals := 22 })).room s m ([.ref (hh a0x), .ref (hh a1x), .ref (hh a2x)]).toArray below meth c H locs 0 0 Q (F0 m 228 ls [.ref (hh y0)]) := by
    intro x3 x4 x5 y0 nv H locs ls hP hD hS hl hw
    unfold w17_L228 at hw
    refine lv_astore (lv' := [(6, .ref (hh y0)), (0, .ref (hh a0x)), (1, .ref (hh a1x)), (2, .ref (hh a2x)), (3, .int x3), (4, .int x4), (5, .ref (hh x5))]) hx hb px_d17_228 hl (by decide) rfl (fun ls hl => ?_)
    refine lv_iconst (v := 0) hx hb px_d17_230 (by decide) ?_
    refine lv_istore (lv' := [(7, .int 0), (6, .ref (hh y0)), (0, .ref (hh a0x)), (1, .ref (hh a1x)), (2, .ref (hh a2x)), (3, .int x3), (4, .int x4), (5, .ref (hh x5))]) hx hb px_d17_231 hl (by decide) rfl (fun ls hl => ?_)
    refine lv_iconst (v := 0) hx hb px_d17_233 (by decide) ?_
    refine lv_istore (lv' := [(8, .int 0), (7, .int 0), (6, .ref (hh y0)), (0, .ref (hh a0x)), (1, .ref (hh a1x)), (2, .ref (hh a2x)), (3, .int x3), (4, .int x4), (5, .ref (hh x5))]) hx hb px_d17_234 hl (by decide) rfl (fun ls hl => ?_)
    obtain ⟨k9, hw⟩ := hw
    exact S236 k9 x3 x4 x5 y0 0 0 nv H locs ls hP hD hS (lv_sub hl [3, 4, 5, 6, 7, 8, 2, 1, 0] rfl) hw
  have S216 : ∀ (x3 : Int32) (x4 : Int32) (y0 : Nat) (nv : Nat → px_NV) (H : Heap) (locs : List Loc) (ls : Array Slot), va_P (dC, dI) vwCl (([] : va_W) ++ px_np hh qq cN nv) H → va_D A (([] : va_W) ++ px_np hh qq cN nv) → va_S A s.heap H locs → lv_has ls 10 [(0, .ref (hh a0x)), (1, .ref (hh a1x)), (2, .ref (hh a2x)), (3, .int x3), (4, .int x4)] → w17_L216 a0x a1x a2x post x3 x4 y0 nv → W p l e (headSpec px_s17 ({ frames := 1, cells := 0, slots := 0, locals := 22 })).room s m ([.ref (hh a0x), .ref (hh a1x), .ref (hh a2x)]).toArray below meth c H locs 0 0 Q (F0 m 216 ls [.ref (hh y0)]) := by
    intro x3 x4 y0 nv H locs ls hP hD hS hl hw
    unfold w17_L216 at hw
    refine lv_astore (lv' := [(5, .ref (hh y0)), (0, .ref (hh a0x)), (1, .ref (hh a1x)), (2, .ref (hh a2x)), (3, .int x3), (4, .int x4)]) hx hb px_d17_216 hl (by decide) rfl (fun ls hl => ?_)
    refine lv_iload hx hb px_d17_218 (lv_at hl 5 rfl) ?_
    refine lv_if_eq (tgt := 227) hx hb px_d17_220 (by decide) (fun c220 => ?_) (fun c220 => ?_)
    · have hw := hw.1 c220
      refine lv_aload_n hx hb px_d17_227 rfl (lv_at hl 2 rfl) ?_
      exact S228 x3 x4 y0 a1x nv H locs ls hP hD hS (lv_sub hl [1, 2, 3, 4, 5, 0] rfl) hw
    · have hw := hw.2 c220
      refine lv_aload_n hx hb px_d17_223 rfl (lv_at hl 3 rfl) ?_
      refine lv_goto (tgt := 228) hx hb px_d17_224 (by decide) ?_
      exact S228 x3 x4 y0 a2x nv H locs ls hP hD hS (lv_sub hl [1, 2, 3, 4, 5, 0] rfl) hw
  have S204 : ∀ (x3 : Int32) (y0 : Int32) (nv : Nat → px_NV) (H : Heap) (locs : List Loc) (ls : Array Slot), va_P (dC, dI) vwCl (([] : va_W) ++ px_np hh qq cN nv) H → va_D A (([] : va_W) ++ px_np hh qq cN nv) → va_S A s.heap H locs → lv_has ls 10 [(0, .ref (hh a0x)), (1, .ref (hh a1x)), (2, .ref (hh a2x)), (3, .int x3)] → w17_L204 a0x a1x a2x post x3 y0 nv → W p l e (headSpec px_s17 ({ frames := 1, cells := 0, slots := 0, locals := 22 })).room s m ([.ref (hh a0x), .ref (hh a1x), .ref (hh a2x)]).toArray below meth c H locs 0 0 Q (F0 m 204 ls [.int y0]) := by
    intro x3 y0 nv H locs ls hP hD hS hl hw
    unfold w17_L204 at hw
    refine lv_istore (lv' := [(4, .int y0), (0, .ref (hh a0x)), (1, .ref (hh a1x)), (2, .ref (hh a2x)), (3, .int x3)]) hx hb px_d17_204 hl (by decide) rfl (fun ls hl => ?_)
    refine lv_iload hx hb px_d17_206 (lv_at hl 0 rfl) ?_
    refine lv_if_eq (tgt := 215) hx hb px_d17_208 (by decide) (fun c208 => ?_) (fun c208 => ?_)
    · have hw := hw.1 c208
      refine lv_aload_n hx hb px_d17_215 rfl (lv_at hl 3 rfl) ?_
      exact S216 x3 y0 a2x nv H locs ls hP hD hS (lv_sub hl [1, 2, 3, 4, 0] rfl) hw
    · have hw := hw.2 c208
      refine lv_aload_n hx hb px_d17_211 rfl (lv_at hl 2 rfl) ?_
      refine lv_goto (tgt := 216) hx hb px_d17_212 (by decide) ?_
      exact S216 x3 y0 a1x nv H locs ls hP hD hS (lv_sub hl [1, 2, 3, 4, 0] rfl) hw
  have S183 : ∀ (x3 : Int32) (x4 : Int32) (x5 : Int32) (x6 : Int32) (y0 : Int32) (nv : Nat → px_NV) (H : Heap) (locs : List Loc) (ls : Array Slot), va_P (dC, dI) vwCl (([] : va_W) ++ px_np hh qq cN nv) H → va_D A (([] : va_W) ++ px_np hh qq cN nv) → va_S A s.heap H locs → lv_has ls 10 [(0, .ref (hh a0x)), (1, .ref (hh a1x)), (2, .ref (hh a2x)), (3, .int x3), (4, .int x4), (5, .int x5), (6, .int x6)] → w17_L183 a0x a1x a2x post x3 x4 x5 x6 y0 nv → W p l e (headSpec px_s17 ({ frames := 1, cells := 0, slots := 0, locals := 22 })).room s m ([.ref (hh a0x), .ref (hh a1x), .ref (hh a2x)]).toArray below meth c H locs 0 0 Q (F0 m 183 ls [.int y0, .ref (hh a0x)]) := by
    intro x3 x4 x5 x6 y0 nv H locs ls hP hD hS hl hw
    unfold w17_L183 at hw
    obtain ⟨hp183, hw⟩ := hw
    obtain ⟨hz183, hw⟩ := hw
    obtain ⟨nv13, env13⟩ : ∃ z : Nat → px_NV, z = va_up nv a0x ⟨(nv a0x).1, y0, (nv a0x).2.2⟩ := ⟨_, rfl⟩
    refine va_put (D := (dC, dI)) (ci := 9) (v := .int y0) (ty := .boolean) (C := "MatroidDeskModel$Num") (T := px_T9) (N := 3) hx hb htw px_in9 px_ty9 px_tyok9 px_nm9 hown hK hP hD hS (0 + a0x) (px_go rfl hp183) rfl 2 (by decide) (htw _ px_w272) (fun _ h9 => h9) rfl (by decide +kernel) (hz183).1 (hz183).2 (Nat.le_of_ble_eq_true rfl) px_d17_183 (fun H locs hP hD hS => ?_)
    have hP : va_P (dC, dI) vwCl (([] : va_W) ++ px_np hh qq cN nv13) H := px_soP rfl hp183 env13 hP
    have hD : va_D A (([] : va_W) ++ px_np hh qq cN nv13) := px_soD rfl hp183 env13 hD
    have hw := hw nv13 env13
    refine lv_aload_n hx hb px_d17_186 rfl (lv_at hl 0 rfl) ?_
    obtain ⟨hk187, hw⟩ := hw
    have hPc : va_P (dC, dI) vwCl [(hh a0x, .inr (9, [.ref (qq a0x), .int ((nv13 a0x).1), .int ((nv13 a0x).2.1)])), (qq a0x, .inl (cN, 160, .inl ((nv13 a0x).2.2)))] H := px_outP hP [a0x] hk187
    have hDc : va_D A [(hh a0x, .inr (9, [.ref (qq a0x), .int ((nv13 a0x).1), .int ((nv13 a0x).2.1)])), (qq a0x, .inl (cN, 160, .inl ((nv13 a0x).2.2)))] := px_outD hD [a0x] hk187
    have hFc : ∀ q, va_A [(hh a0x, .inr (9, [.ref (qq a0x), .int ((nv13 a0x).1), .int ((nv13 a0x).2.1)])), (qq a0x, .inl (cN, 160, .inl ((nv13 a0x).2.2)))] H.size q → A q := px_outF hD hS hA [a0x] hk187
    have hKc := hK.sub (tys' := [(cN, .int)]) [0] rfl
    refine va_callv (va_runV (As := []) (rest := []) ⟨hx, hb, hml, hown, htw⟩ (nt_met l dC dI H.size (hh a0x) (qq a0x) cN ((nv13 a0x).1) ((nv13 a0x).2.1) ((nv13 a0x).2.2) _ hw) (cwV 0 htw (px_gv px_w300 px_w291 px_w292 px_w149 px_g15) rfl rfl rfl (by decide +kernel) ⟨Nat.le_of_ble_eq_true rfl, Nat.le_of_ble_eq_true rfl⟩) ⟨fun a U g mk q => by obtain ⟨q0, q1, qP, qK, qD, qN⟩ := q; exact ⟨q0, q1, qP, va_K.moved (u := U) (U := U.calling g mk a) (Vm.Alike.refl U.vm) qK, qD, qN.same rfl⟩, va_recv hK hPc (ci := 9) (q0 := 0) rfl rfl, fun U hU hW => ⟨rfl, by rw [hU], by rw [hU]; exact hPc, va_K.moved hW.alike hKc, hDc.weaken (fun _ _ _ _ => trivial), hN.warm hW⟩⟩ rfl rfl hl.1 rfl (lv_room (Nat.le_of_ble_eq_true rfl)) px_d17_187 ⟨(Nat.le_of_ble_eq_true rfl), (Nat.le_of_ble_eq_true rfl)⟩) hS (fun q _ h => hFc q h) hFc (fun u t H1 locs ht hvm hw hB hz1 hk1 hS => ?_)
    obtain ⟨v14, v15, v16⟩ := u
    obtain ⟨hP1, hK1, hD1⟩ := hB
    rw [ht] at hP1
    obtain ⟨nv18, env18⟩ : ∃ z : Nat → px_NV, z = px_fold nv13 [(a0x, ⟨v14, v15, v16⟩)] := ⟨_, rfl⟩
    have hw := hw nv18 env18
    obtain ⟨hP, hD⟩ := px_in hP hD [a0x] hk187 [(a0x, ⟨v14, v15, v16⟩)] rfl hk1 hP1 env18
    generalize H1 = H at hP hS ⊢
    have hP : va_P (dC, dI) vwCl (([] : va_W) ++ px_np hh qq cN nv18) H := hP
    have hD : va_D A (([] : va_W) ++ px_np hh qq cN nv18) := hD
    rw [← hQ]
    exact W.vret hx hb hr (fun t ht hW => ⟨⟨nv18, rfl, hw, by rw [ht]; exact hP, va_K.moved hW.alike hK, hD⟩, hS.F ht⟩) hS.2.2 px_d17_190
  have S72 : ∀ (k72 : Nat) (x3 : Int32) (x4 : Int32) (x5 : Int32) (x6 : Int32) (nv : Nat → px_NV) (H : Heap) (locs : List Loc) (ls : Array Slot), va_P (dC, dI) vwCl (([] : va_W) ++ px_np hh qq cN nv) H → va_D A (([] : va_W) ++ px_np hh qq cN nv) → va_S A s.heap H locs → lv_has ls 10 [(0, .ref (hh a0x)), (1, .ref (hh a1x)), (2, .ref (hh a2x)), (3, .int x3), (4, .int x4), (5, .int x5), (6, .int x6)] → w17_L72 a0x a1x a2x post k72 x3 x4 x5 x6 nv → W p l e (headSpec px_s17 ({ frames := 1, cells := 0, slots := 0, locals := 22 })).room s m ([.ref (hh a0x), .ref (hh a1x), .ref (hh a2x)]).toArray below meth c H locs 0 0 Q (F0 m 72 ls []) := by
    intro k72
    induction k72 with
    | zero => intro x3 x4 x5 x6 nv H locs ls hP hD hS hl hw; exact False.elim hw
    | succ k72 ih72 =>
      have S121 : ∀ (x3 : Int32) (x4 : Int32) (x5 : Int32) (x6 : Int32) (y0 : Int32) (y1 : Int32) (y2 : Int32) (nv : Nat → px_NV) (H : Heap) (locs : List Loc) (ls : Array Slot), va_P (dC, dI) vwCl (([] : va_W) ++ px_np hh qq cN nv) H → va_D A (([] : va_W) ++ px_np hh qq cN nv) → va_S A s.heap H locs → lv_has ls 10 [(0, .ref (hh a0x)), (1, .ref (hh a1x)), (2, .ref (hh a2x)), (3, .int x3), (4, .int x4), (5, .int x5), (6, .int x6)] → w17_L121 (w17_L72 a0x a1x a2x post k72) a0x a1x a2x post x3 x4 x5 x6 y0 y1 y2 nv → W p l e (headSpec px_s17 ({ frames := 1, cells := 0, slots := 0, locals := 22 })).room s m ([.ref (hh a0x), .ref (hh a1x), .ref (hh a2x)]).toArray below meth c H locs 0 0 Q (F0 m 121 ls [.int y0, .int y1, .int y2]) := by
        intro x3 x4 x5 x6 y0 y1 y2 nv H locs ls hP hD hS hl hw
        unfold w17_L121 at hw
        refine lv_iadd hx hb px_d17_121 ?_
        refine lv_iadd hx hb px_d17_122 ?_
        refine lv_topi (fun z19 ez19 => ?_)
        have hw := hw z19 ez19
        refine lv_istore (lv' := [(5, .int z19), (0, .ref (hh a0x)), (1, .ref (hh a1x)), (2, .ref (hh a2x)), (3, .int x3), (4, .int x4), (6, .int x6)]) hx hb px_d17_123 hl (by decide) rfl (fun ls hl => ?_)
        refine lv_aload_n hx hb px_d17_125 rfl (lv_at hl 1 rfl) ?_
        obtain ⟨hp126, hw⟩ := hw
        refine va_get (D := (dC, dI)) (ci := 9) (v := .ref (qq a0x)) (C := "MatroidDeskModel$Num") (T := px_T9) (N := 3) hx hb htw px_in9 hown hK hP (0 + a0x) (px_go rfl hp126) rfl 0 (by decide) (htw _ px_w267) (fun _ h9 => h9) rfl px_d17_126 ?_
        refine lv_iload hx hb px_d17_129 (lv_at hl 6 rfl) ?_
        refine lv_iload hx hb px_d17_131 (lv_at hl 0 rfl) ?_
        refine lv_ldc hx hb (own := "MatroidDeskModel$Num") (index := 26) (v := 65536) hown (htw _ px_w299) px_d17_133 ?_
        refine lv_irem hx hb px_d17_135 (by decide +kernel) ?_
        refine lv_topi (fun z20 ez20 => ?_)
        have hw := hw z20 ez20
        obtain ⟨hp136, hw⟩ := hw
        obtain ⟨hi136, hw⟩ := hw
        obtain ⟨nv21, env21⟩ : ∃ z : Nat → px_NV, z = va_up nv a0x ⟨(nv a0x).1, (nv a0x).2.1, upd (nv a0x).2.2 (Int32.toNatClampNeg x6) z20⟩ := ⟨_, rfl⟩
        refine va_iast hx hb hK hP hD hS (0 + (200 + a0x)) 0 (px_ga rfl hp136) rfl hi136 px_d17_136 (fun H locs hP hD hS => ?_)
        have hP : va_P (dC, dI) vwCl (([] : va_W) ++ px_np hh qq cN nv21) H := px_saP rfl hp136 env21 hP
        have hD : va_D A (([] : va_W) ++ px_np hh qq cN nv21) := px_saD rfl hp136 env21 hD
        have hw := hw nv21 env21
        refine lv_iload hx hb px_d17_137 (lv_at hl 0 rfl) ?_
        refine lv_ldc hx hb (own := "MatroidDeskModel$Num") (index := 26) (v := 65536) hown (htw _ px_w299) px_d17_139 ?_
        refine lv_idiv hx hb px_d17_141 (by decide +kernel) ?_
        refine lv_topi (fun z22 ez22 => ?_)
        have hw := hw z22 ez22
        refine lv_istore (lv' := [(5, .int z22), (0, .ref (hh a0x)), (1, .ref (hh a1x)), (2, .ref (hh a2x)), (3, .int x3), (4, .int x4), (6, .int x6)]) hx hb px_d17_142 hl (by decide) rfl (fun ls hl => ?_)
        obtain ⟨z23, ez23⟩ : ∃ y : Int32, y = x6 + 1 := ⟨_, rfl⟩
        have hw := hw z23 ez23
        refine lv_iinc (v := z23) (lv' := [(6, .int z23), (5, .int z22), (0, .ref (hh a0x)), (1, .ref (hh a1x)), (2, .ref (hh a2x)), (3, .int x3), (4, .int x4)]) hx hb px_d17_144 hl (k := 6) rfl (by rw [ez23]; rfl) (by decide) rfl (fun ls hl => ?_)
        refine lv_goto (tgt := 72) hx hb px_d17_147 (by decide) ?_
        exact ih72 x3 x4 z22 z23 nv21 H locs ls hP hD hS (lv_sub hl [2, 3, 4, 5, 6, 1, 0] rfl) hw
      have S101 : ∀ (x3 : Int32) (x4 : Int32) (x5 : Int32) (x6 : Int32) (y0 : Int32) (y1 : Int32) (nv : Nat → px_NV) (H : Heap) (locs : List Loc) (ls : Array Slot), va_P (dC, dI) vwCl (([] : va_W) ++ px_np hh qq cN nv) H → va_D A (([] : va_W) ++ px_np hh qq cN nv) → va_S A s.heap H locs → lv_has ls 10 [(0, .ref (hh a0x)), (1, .ref (hh a1x)), (2, .ref (hh a2x)), (3, .int x3), (4, .int x4), (5, .int x5), (6, .int x6)] → w17_L101 (w17_L72 a0x a1x a2x post k72) a0x a1x a2x post x3 x4 x5 x6 y0 y1 nv → W p l e (headSpec px_s17 ({ frames := 1, cells := 0, slots := 0, locals := 22 })).room s m ([.ref (hh a0x), .ref (hh a1x), .ref (hh a2x)]).toArray below meth c H locs 0 0 Q (F0 m 101 ls [.int y0, .int y1]) := by
        intro x3 x4 x5 x6 y0 y1 nv H locs ls hP hD hS hl hw
        unfold w17_L101 at hw
        refine lv_iload hx hb px_d17_101 (lv_at hl 6 rfl) ?_
        refine lv_aload_n hx hb px_d17_103 rfl (lv_at hl 2 rfl) ?_
        obtain ⟨hp104, hw⟩ := hw
        refine va_get (D := (dC, dI)) (ci := 9) (v := .int ((nv a2x).1)) (C := "MatroidDeskModel$Num") (T := px_T9) (N := 3) hx hb htw px_in9 hown hK hP (0 + a2x) (px_go rfl hp104) rfl 1 (by decide) (htw _ px_w271) (fun _ h9 => h9) rfl px_d17_104 ?_
        refine lv_icmp_ge (tgt := 120) hx hb px_d17_107 (by decide) (fun c107 => ?_) (fun c107 => ?_)
        · have hw := hw.1 c107
          refine lv_iconst (v := 0) hx hb px_d17_120 (by decide) ?_
          exact S121 x3 x4 x5 x6 0 y0 y1 nv H locs ls hP hD hS (lv_sub hl [0, 1, 2, 3, 4, 5, 6] rfl) hw
        · have hw := hw.2 c107
          refine lv_aload_n hx hb px_d17_110 rfl (lv_at hl 2 rfl) ?_
          obtain ⟨hp111, hw⟩ := hw
          refine va_get (D := (dC, dI)) (ci := 9) (v := .ref (qq a2x)) (C := "MatroidDeskModel$Num") (T := px_T9) (N := 3) hx hb htw px_in9 hown hK hP (0 + a2x) (px_go rfl hp111) rfl 0 (by decide) (htw _ px_w267) (fun _ h9 => h9) rfl px_d17_111 ?_
          refine lv_iload hx hb px_d17_114 (lv_at hl 6 rfl) ?_
          obtain ⟨hp116, hw⟩ := hw
          obtain ⟨hi116, hw⟩ := hw
          refine va_iald hx hb hK hP (0 + (200 + a2x)) 0 (px_ga rfl hp116) rfl hi116 px_d17_116 ?_
          refine lv_goto (tgt := 121) hx hb px_d17_117 (by decide) ?_
          exact S121 x3 x4 x5 x6 ((nv a2x).2.2 (Int32.toNatClampNeg x6)) y0 y1 nv H locs ls hP hD hS (lv_sub hl [0, 1, 2, 3, 4, 5, 6] rfl) hw
      intro x3 x4 x5 x6 nv H locs ls hP hD hS hl hw
      unfold w17_L72 at hw
      refine lv_iload hx hb px_d17_72 (lv_at hl 6 rfl) ?_
      refine lv_iload hx hb px_d17_74 (lv_at hl 4 rfl) ?_
      refine lv_icmp_ge (tgt := 150) hx hb px_d17_76 (by decide) (fun c76 => ?_) (fun c76 => ?_)
      · have hw := hw.1 c76
        refine lv_aload_n hx hb px_d17_150 rfl (lv_at hl 0 rfl) ?_
        obtain ⟨hp151, hw⟩ := hw
        refine va_get (D := (dC, dI)) (ci := 9) (v := .ref (qq a0x)) (C := "MatroidDeskModel$Num") (T := px_T9) (N := 3) hx hb htw px_in9 hown hK hP (0 + a0x) (px_go rfl hp151) rfl 0 (by decide) (htw _ px_w267) (fun _ h9 => h9) rfl px_d17_151 ?_
        refine lv_iload hx hb px_d17_154 (lv_at hl 4 rfl) ?_
        refine lv_iload hx hb px_d17_156 (lv_at hl 5 rfl) ?_
        obtain ⟨hp158, hw⟩ := hw
        obtain ⟨hi158, hw⟩ := hw
        obtain ⟨nv24, env24⟩ : ∃ z : Nat → px_NV, z = va_up nv a0x ⟨(nv a0x).1, (nv a0x).2.1, upd (nv a0x).2.2 (Int32.toNatClampNeg x4) x5⟩ := ⟨_, rfl⟩
        refine va_iast hx hb hK hP hD hS (0 + (200 + a0x)) 0 (px_ga rfl hp158) rfl hi158 px_d17_158 (fun H locs hP hD hS => ?_)
        have hP : va_P (dC, dI) vwCl (([] : va_W) ++ px_np hh qq cN nv24) H := px_saP rfl hp158 env24 hP
        have hD : va_D A (([] : va_W) ++ px_np hh qq cN nv24) := px_saD rfl hp158 env24 hD
        have hw := hw nv24 env24
        refine lv_aload_n hx hb px_d17_159 rfl (lv_at hl 0 rfl) ?_
        refine lv_iload hx hb px_d17_160 (lv_at hl 4 rfl) ?_
        refine lv_iconst (v := 1) hx hb px_d17_162 (by decide) ?_
        refine lv_iadd hx hb px_d17_163 ?_
        refine lv_topi (fun z25 ez25 => ?_)
        have hw := hw z25 ez25
        obtain ⟨hp164, hw⟩ := hw
        obtain ⟨nv26, env26⟩ : ∃ z : Nat → px_NV, z = va_up nv24 a0x ⟨z25, (nv24 a0x).2.1, (nv24 a0x).2.2⟩ := ⟨_, rfl⟩
        refine va_put (D := (dC, dI)) (ci := 9) (v := .int z25) (ty := .int) (C := "MatroidDeskModel$Num") (T := px_T9) (N := 3) hx hb htw px_in9 px_ty9 px_tyok9 px_nm9 hown hK hP hD hS (0 + a0x) (px_go rfl hp164) rfl 1 (by decide) (htw _ px_w271) (fun _ h9 => h9) rfl (by decide +kernel) rfl rfl (Nat.le_of_ble_eq_true rfl) px_d17_164 (fun H locs hP hD hS => ?_)
        have hP : va_P (dC, dI) vwCl (([] : va_W) ++ px_np hh qq cN nv26) H := px_soP rfl hp164 env26 hP
        have hD : va_D A (([] : va_W) ++ px_np hh qq cN nv26) := px_soD rfl hp164 env26 hD
        have hw := hw nv26 env26
        refine lv_aload_n hx hb px_d17_167 rfl (lv_at hl 0 rfl) ?_
        refine lv_aload_n hx hb px_d17_168 rfl (lv_at hl 1 rfl) ?_
        obtain ⟨hp169, hw⟩ := hw
        refine va_get (D := (dC, dI)) (ci := 9) (v := .int ((nv26 a1x).1)) (C := "MatroidDeskModel$Num") (T := px_T9) (N := 3) hx hb htw px_in9 hown hK hP (0 + a1x) (px_go rfl hp169) rfl 1 (by decide) (htw _ px_w271) (fun _ h9 => h9) rfl px_d17_169 ?_
        refine lv_if_ne (tgt := 179) hx hb px_d17_172 (by decide) (fun c172 => ?_) (fun c172 => ?_)
        · have hw := hw.1 c172
          refine lv_aload_n hx hb px_d17_179 rfl (lv_at hl 1 rfl) ?_
          obtain ⟨hp180, hw⟩ := hw
          refine va_get (D := (dC, dI)) (ci := 9) (v := .int ((nv26 a1x).2.1)) (C := "MatroidDeskModel$Num") (T := px_T9) (N := 3) hx hb htw px_in9 hown hK hP (0 + a1x) (px_go rfl hp180) rfl 2 (by decide) (htw _ px_w272) (fun _ h9 => h9) rfl px_d17_180 ?_
          exact S183 x3 x4 x5 x6 ((nv26 a1x).2.1) nv26 H locs ls hP hD hS (lv_sub hl [0, 1, 2, 3, 4, 5, 6] rfl) hw
        · have hw := hw.2 c172
          refine lv_iload_n hx hb px_d17_175 rfl (lv_at hl 3 rfl) ?_
          refine lv_goto (tgt := 183) hx hb px_d17_176 (by decide) ?_
          exact S183 x3 x4 x5 x6 x3 nv26 H locs ls hP hD hS (lv_sub hl [0, 1, 2, 3, 4, 5, 6] rfl) hw
      · have hw := hw.2 c76
        refine lv_iload hx hb px_d17_79 (lv_at hl 5 rfl) ?_
        refine lv_iload hx hb px_d17_81 (lv_at hl 6 rfl) ?_
        refine lv_aload_n hx hb px_d17_83 rfl (lv_at hl 1 rfl) ?_
        obtain ⟨hp84, hw⟩ := hw
        refine va_get (D := (dC, dI)) (ci := 9) (v := .int ((nv a1x).1)) (C := "MatroidDeskModel$Num") (T := px_T9) (N := 3) hx hb htw px_in9 hown hK hP (0 + a1x) (px_go rfl hp84) rfl 1 (by decide) (htw _ px_w271) (fun _ h9 => h9) rfl px_d17_84 ?_
        refine lv_icmp_ge (tgt := 100) hx hb px_d17_87 (by decide) (fun c87 => ?_) (fun c87 => ?_)
        · have hw := hw.1 c87
          refine lv_iconst (v := 0) hx hb px_d17_100 (by decide) ?_
          exact S101 x3 x4 x5 x6 0 x5 nv H locs ls hP hD hS (lv_sub hl [0, 1, 2, 3, 4, 5, 6] rfl) hw
        · have hw := hw.2 c87
          refine lv_aload_n hx hb px_d17_90 rfl (lv_at hl 1 rfl) ?_
          obtain ⟨hp91, hw⟩ := hw
          refine va_get (D := (dC, dI)) (ci := 9) (v := .ref (qq a1x)) (C := "MatroidDeskModel$Num") (T := px_T9) (N := 3) hx hb htw px_in9 hown hK hP (0 + a1x) (px_go rfl hp91) rfl 0 (by decide) (htw _ px_w267) (fun _ h9 => h9) rfl px_d17_91 ?_
          refine lv_iload hx hb px_d17_94 (lv_at hl 6 rfl) ?_
          obtain ⟨hp96, hw⟩ := hw
          obtain ⟨hi96, hw⟩ := hw
          refine va_iald hx hb hK hP (0 + (200 + a1x)) 0 (px_ga rfl hp96) rfl hi96 px_d17_96 ?_
          refine lv_goto (tgt := 101) hx hb px_d17_97 (by decide) ?_
          exact S101 x3 x4 x5 x6 ((nv a1x).2.2 (Int32.toNatClampNeg x6)) x5 nv H locs ls hP hD hS (lv_sub hl [0, 1, 2, 3, 4, 5, 6] rfl) hw
  have S64 : ∀ (x3 : Int32) (y0 : Int32) (nv : Nat → px_NV) (H : Heap) (locs : List Loc) (ls : Array Slot), va_P (dC, dI) vwCl (([] : va_W) ++ px_np hh qq cN nv) H → va_D A (([] : va_W) ++ px_np hh qq cN nv) → va_S A s.heap H locs → lv_has ls 10 [(0, .ref (hh a0x)), (1, .ref (hh a1x)), (2, .ref (hh a2x)), (3, .int x3)] → w17_L64 a0x a1x a2x post x3 y0 nv → W p l e (headSpec px_s17 ({ frames := 1, cells := 0, slots := 0, locals := 22 })).room s m ([.ref (hh a0x), .ref (hh a1x), .ref (hh a2x)]).toArray below meth c H locs 0 0 Q (F0 m 64 ls [.int y0]) := by
    intro x3 y0 nv H locs ls hP hD hS hl hw
    unfold w17_L64 at hw
    refine lv_istore (lv' := [(4, .int y0), (0, .ref (hh a0x)), (1, .ref (hh a1x)), (2, .ref (hh a2x)), (3, .int x3)]) hx hb px_d17_64 hl (by decide) rfl (fun ls hl => ?_)
    refine lv_iconst (v := 0) hx hb px_d17_66 (by decide) ?_
    refine lv_istore (lv' := [(5, .int 0), (4, .int y0), (0, .ref (hh a0x)), (1, .ref (hh a1x)), (2, .ref (hh a2x)), (3, .int x3)]) hx hb px_d17_67 hl (by decide) rfl (fun ls hl => ?_)
    refine lv_iconst (v := 0) hx hb px_d17_69 (by decide) ?_
    refine lv_istore (lv' := [(6, .int 0), (5, .int 0), (4, .int y0), (0, .ref (hh a0x)), (1, .ref (hh a1x)), (2, .ref (hh a2x)), (3, .int x3)]) hx hb px_d17_70 hl (by decide) rfl (fun ls hl => ?_)
    obtain ⟨k9, hw⟩ := hw
    exact S72 k9 x3 y0 0 0 nv H locs ls hP hD hS (lv_sub hl [3, 4, 5, 6, 2, 1, 0] rfl) hw
  have S42 : ∀ (x3 : Int32) (nv : Nat → px_NV) (H : Heap) (locs : List Loc) (ls : Array Slot), va_P (dC, dI) vwCl (([] : va_W) ++ px_np hh qq cN nv) H → va_D A (([] : va_W) ++ px_np hh qq cN nv) → va_S A s.heap H locs → lv_has ls 10 [(0, .ref (hh a0x)), (1, .ref (hh a1x)), (2, .ref (hh a2x)), (3, .int x3)] → w17_L42 a0x a1x a2x post x3 nv → W p l e (headSpec px_s17 ({ frames := 1, cells := 0, slots := 0, locals := 22 })).room s m ([.ref (hh a0x), .ref (hh a1x), .ref (hh a2x)]).toArray below meth c H locs 0 0 Q (F0 m 42 ls []) := by
    intro x3 nv H locs ls hP hD hS hl hw
    unfold w17_L42 at hw
    refine lv_aload_n hx hb px_d17_42 rfl (lv_at hl 1 rfl) ?_
    obtain ⟨hp43, hw⟩ := hw
    refine va_get (D := (dC, dI)) (ci := 9) (v := .int ((nv a1x).1)) (C := "MatroidDeskModel$Num") (T := px_T9) (N := 3) hx hb htw px_in9 hown hK hP (0 + a1x) (px_go rfl hp43) rfl 1 (by decide) (htw _ px_w271) (fun _ h9 => h9) rfl px_d17_43 ?_
    refine lv_aload_n hx hb px_d17_46 rfl (lv_at hl 2 rfl) ?_
    obtain ⟨hp47, hw⟩ := hw
    refine va_get (D := (dC, dI)) (ci := 9) (v := .int ((nv a2x).1)) (C := "MatroidDeskModel$Num") (T := px_T9) (N := 3) hx hb htw px_in9 hown hK hP (0 + a2x) (px_go rfl hp47) rfl 1 (by decide) (htw _ px_w271) (fun _ h9 => h9) rfl px_d17_47 ?_
    refine lv_icmp_le (tgt := 60) hx hb px_d17_50 (by decide) (fun c50 => ?_) (fun c50 => ?_)
    · have hw := hw.1 c50
      refine lv_aload_n hx hb px_d17_60 rfl (lv_at hl 2 rfl) ?_
      obtain ⟨hp61, hw⟩ := hw
      refine va_get (D := (dC, dI)) (ci := 9) (v := .int ((nv a2x).1)) (C := "MatroidDeskModel$Num") (T := px_T9) (N := 3) hx hb htw px_in9 hown hK hP (0 + a2x) (px_go rfl hp61) rfl 1 (by decide) (htw _ px_w271) (fun _ h9 => h9) rfl px_d17_61 ?_
      exact S64 x3 ((nv a2x).1) nv H locs ls hP hD hS (lv_sub hl [0, 1, 2, 3] rfl) hw
    · have hw := hw.2 c50
      refine lv_aload_n hx hb px_d17_53 rfl (lv_at hl 1 rfl) ?_
      obtain ⟨hp54, hw⟩ := hw
      refine va_get (D := (dC, dI)) (ci := 9) (v := .int ((nv a1x).1)) (C := "MatroidDeskModel$Num") (T := px_T9) (N := 3) hx hb htw px_in9 hown hK hP (0 + a1x) (px_go rfl hp54) rfl 1 (by decide) (htw _ px_w271) (fun _ h9 => h9) rfl px_d17_54 ?_
      refine lv_goto (tgt := 64) hx hb px_d17_57 (by decide) ?_
      exact S64 x3 ((nv a1x).1) nv H locs ls hP hD hS (lv_sub hl [0, 1, 2, 3] rfl) hw
  have S19 : ∀ (y0 : Int32) (nv : Nat → px_NV) (H : Heap) (locs : List Loc) (ls : Array Slot), va_P (dC, dI) vwCl (([] : va_W) ++ px_np hh qq cN nv) H → va_D A (([] : va_W) ++ px_np hh qq cN nv) → va_S A s.heap H locs → lv_has ls 10 [(0, .ref (hh a0x)), (1, .ref (hh a1x)), (2, .ref (hh a2x))] → w17_L19 a0x a1x a2x post y0 nv → W p l e (headSpec px_s17 ({ frames := 1, cells := 0, slots := 0, locals := 22 })).room s m ([.ref (hh a0x), .ref (hh a1x), .ref (hh a2x)]).toArray below meth c H locs 0 0 Q (F0 m 19 ls [.int y0]) := by
    intro y0 nv H locs ls hP hD hS hl hw
    unfold w17_L19 at hw
    refine lv_istore_n (lv' := [(3, .int y0), (0, .ref (hh a0x)), (1, .ref (hh a1x)), (2, .ref (hh a2x))]) hx hb px_d17_19 rfl hl (by decide) rfl (fun ls hl => ?_)
    refine lv_aload_n hx hb px_d17_20 rfl (lv_at hl 2 rfl) ?_
    obtain ⟨hp21, hw⟩ := hw
    refine va_get (D := (dC, dI)) (ci := 9) (v := .int ((nv a1x).1)) (C := "MatroidDeskModel$Num") (T := px_T9) (N := 3) hx hb htw px_in9 hown hK hP (0 + a1x) (px_go rfl hp21) rfl 1 (by decide) (htw _ px_w271) (fun _ h9 => h9) rfl px_d17_21 ?_
    refine lv_if_eq (tgt := 42) hx hb px_d17_24 (by decide) (fun c24 => ?_) (fun c24 => ?_)
    · have hw := hw.1 c24
      exact S42 y0 nv H locs ls hP hD hS (lv_sub hl [1, 2, 3, 0] rfl) hw
    · have hw := hw.2 c24
      refine lv_aload_n hx hb px_d17_27 rfl (lv_at hl 3 rfl) ?_
      obtain ⟨hp28, hw⟩ := hw
      refine va_get (D := (dC, dI)) (ci := 9) (v := .int ((nv a2x).1)) (C := "MatroidDeskModel$Num") (T := px_T9) (N := 3) hx hb htw px_in9 hown hK hP (0 + a2x) (px_go rfl hp28) rfl 1 (by decide) (htw _ px_w271) (fun _ h9 => h9) rfl px_d17_28 ?_
      refine lv_if_eq (tgt := 42) hx hb px_d17_31 (by decide) (fun c31 => ?_) (fun c31 => ?_)
      · have hw := hw.1 c31
        exact S42 y0 nv H locs ls hP hD hS (lv_sub hl [1, 2, 3, 0] rfl) hw
      · have hw := hw.2 c31
        refine lv_aload_n hx hb px_d17_34 rfl (lv_at hl 2 rfl) ?_
        obtain ⟨hp35, hw⟩ := hw
        refine va_get (D := (dC, dI)) (ci := 9) (v := .int ((nv a1x).2.1)) (C := "MatroidDeskModel$Num") (T := px_T9) (N := 3) hx hb htw px_in9 hown hK hP (0 + a1x) (px_go rfl hp35) rfl 2 (by decide) (htw _ px_w272) (fun _ h9 => h9) rfl px_d17_35 ?_
        refine lv_iload_n hx hb px_d17_38 rfl (lv_at hl 0 rfl) ?_
        refine lv_icmp_ne (tgt := 191) hx hb px_d17_39 (by decide) (fun c39 => ?_) (fun c39 => ?_)
        · have hw := hw.1 c39
          refine lv_aload_n hx hb px_d17_191 rfl (lv_at hl 2 rfl) ?_
          refine lv_aload_n hx hb px_d17_192 rfl (lv_at hl 3 rfl) ?_
          obtain ⟨hk193, hw⟩ := hw
          have hPc : va_P (dC, dI) vwCl [(hh a1x, .inr (9, [.ref (qq a1x), .int ((nv a1x).1), .int ((nv a1x).2.1)])), (qq a1x, .inl (cN, 160, .inl ((nv a1x).2.2))), (hh a2x, .inr (9, [.ref (qq a2x), .int ((nv a2x).1), .int ((nv a2x).2.1)])), (qq a2x, .inl (cN, 160, .inl ((nv a2x).2.2)))] H := px_outP hP [a1x, a2x] hk193
          have hDc : va_D A [(hh a1x, .inr (9, [.ref (qq a1x), .int ((nv a1x).1), .int ((nv a1x).2.1)])), (qq a1x, .inl (cN, 160, .inl ((nv a1x).2.2))), (hh a2x, .inr (9, [.ref (qq a2x), .int ((nv a2x).1), .int ((nv a2x).2.1)])), (qq a2x, .inl (cN, 160, .inl ((nv a2x).2.2)))] := px_outD hD [a1x, a2x] hk193
          have hFc : ∀ q, va_A [(hh a1x, .inr (9, [.ref (qq a1x), .int ((nv a1x).1), .int ((nv a1x).2.1)])), (qq a1x, .inl (cN, 160, .inl ((nv a1x).2.2))), (hh a2x, .inr (9, [.ref (qq a2x), .int ((nv a2x).1), .int ((nv a2x).2.1)])), (qq a2x, .inl (cN, 160, .inl ((nv a2x).2.2)))] H.size q → A q := px_outF hD hS hA [a1x, a2x] hk193
          have hKc := hK.sub (tys' := [(cN, .int), (cN, .int)]) [0, 0] rfl
          refine va_calli (va_runV (As := [.ref (hh a2x)]) (rest := []) ⟨hx, hb, hml, hown, htw⟩ (ncs_met l dC dI H.size (hh a1x) (qq a1x) (hh a2x) (qq a2x) cN cN ((nv a1x).1) ((nv a1x).2.1) ((nv a1x).2.2) ((nv a2x).1) ((nv a2x).2.1) ((nv a2x).2.2) _ hw) (cwV 1 htw (px_gv px_w301 px_w294 px_w295 px_w149 px_g16) rfl rfl rfl (by decide +kernel) ⟨Nat.le_of_ble_eq_true rfl, Nat.le_of_ble_eq_true rfl⟩) ⟨fun a U g mk q => by obtain ⟨q0, q1, qP, qK, qD, qN⟩ := q; exact ⟨q0, q1, qP, va_K.moved (u := U) (U := U.calling g mk a) (Vm.Alike.refl U.vm) qK, qD, qN.same rfl⟩, va_recv hK hPc (ci := 9) (q0 := 0) rfl rfl, fun U hU hW => ⟨rfl, by rw [hU], by rw [hU]; exact hPc, va_K.moved hW.alike hKc, hDc.weaken (fun _ _ _ _ => trivial), hN.warm hW⟩⟩ rfl rfl hl.1 rfl (lv_room (Nat.le_of_ble_eq_true rfl)) px_d17_193 ⟨(Nat.le_of_ble_eq_true rfl), (Nat.le_of_ble_eq_true rfl)⟩) hS (fun q _ h => hFc q h) hFc (fun r193 u t H1 locs ht hvm hw hB hz1 hk1 hS => ?_)
          obtain ⟨v27, v28, v29, v30, v31, v32⟩ := u
          obtain ⟨hP1, hK1, hD1⟩ := hB
          rw [ht] at hP1
          obtain ⟨nv34, env34⟩ : ∃ z : Nat → px_NV, z = px_fold nv [(a1x, ⟨v27, v28, v29⟩), (a2x, ⟨v30, v31, v32⟩)] := ⟨_, rfl⟩
          have hw := hw nv34 env34
          obtain ⟨hP, hD⟩ := px_in hP hD [a1x, a2x] hk193 [(a1x, ⟨v27, v28, v29⟩), (a2x, ⟨v30, v31, v32⟩)] rfl hk1 hP1 env34
          generalize H1 = H at hP hS ⊢
          have hP : va_P (dC, dI) vwCl (([] : va_W) ++ px_np hh qq cN nv34) H := hP
          have hD : va_D A (([] : va_W) ++ px_np hh qq cN nv34) := hD
          refine lv_if_lt (tgt := 203) hx hb px_d17_196 (by decide) (fun c196 => ?_) (fun c196 => ?_)
          · have hw := hw.1 c196
            refine lv_iconst (v := 0) hx hb px_d17_203 (by decide) ?_
            exact S204 y0 0 nv34 H locs ls hP hD hS (lv_sub hl [1, 2, 3, 0] rfl) hw
          · have hw := hw.2 c196
            refine lv_iconst (v := 1) hx hb px_d17_199 (by decide) ?_
            refine lv_goto (tgt := 204) hx hb px_d17_200 (by decide) ?_
            exact S204 y0 1 nv34 H locs ls hP hD hS (lv_sub hl [1, 2, 3, 0] rfl) hw
        · have hw := hw.2 c39
          exact S42 y0 nv H locs ls hP hD hS (lv_sub hl [1, 2, 3, 0] rfl) hw
  have S18 : ∀ (nv : Nat → px_NV) (H : Heap) (locs : List Loc) (ls : Array Slot), va_P (dC, dI) vwCl (([] : va_W) ++ px_np hh qq cN nv) H → va_D A (([] : va_W) ++ px_np hh qq cN nv) → va_S A s.heap H locs → lv_has ls 10 [(0, .ref (hh a0x)), (1, .ref (hh a1x)), (2, .ref (hh a2x))] → w17_L18 a0x a1x a2x post nv → W p l e (headSpec px_s17 ({ frames := 1, cells := 0, slots := 0, locals := 22 })).room s m ([.ref (hh a0x), .ref (hh a1x), .ref (hh a2x)]).toArray below meth c H locs 0 0 Q (F0 m 18 ls []) := by
    intro nv H locs ls hP hD hS hl hw
    unfold w17_L18 at hw
    refine lv_iconst (v := 0) hx hb px_d17_18 (by decide) ?_
    exact S19 0 nv H locs ls hP hD hS (lv_sub hl [0, 1, 2] rfl) hw
  unfold w17_wp at hw
  have hS0 := hS
  obtain ⟨H, hH9⟩ : ∃ z, z = s.heap := ⟨_, rfl⟩
  have hP : va_P (dC, dI) vwCl (([] : va_W) ++ px_np hh qq cN nv) H := by rw [hH9]; exact hP
  obtain ⟨locs, hlo9⟩ : ∃ z : List Loc, z = [] := ⟨_, rfl⟩
  have hS : va_S A s.heap H locs := by rw [hH9, hlo9]; exact hS
  suffices hG : W p l e (headSpec px_s17 ({ frames := 1, cells := 0, slots := 0, locals := 22 })).room s m ([.ref (hh a0x), .ref (hh a1x), .ref (hh a2x)]).toArray below meth c H locs 0 0 Q (F0 m 0 ls []) by rw [hH9, hlo9] at hG; exact hG
  refine lv_aload_n hx hb px_d17_0 rfl (lv_at hl 2 rfl) ?_
  obtain ⟨hp1, hw⟩ := hw
  refine va_get (D := (dC, dI)) (ci := 9) (v := .int ((nv a2x).1)) (C := "MatroidDeskModel$Num") (T := px_T9) (N := 3) hx hb htw px_in9 hown hK hP (0 + a2x) (px_go rfl hp1) rfl 1 (by decide) (htw _ px_w271) (fun _ h9 => h9) rfl px_d17_1 ?_
  refine lv_if_le (tgt := 18) hx hb px_d17_4 (by decide) (fun c4 => ?_) (fun c4 => ?_)
  · have hw := hw.1 c4
    exact S18 nv H locs ls hP hD hS (lv_sub hl [0, 1, 2] rfl) hw
  · have hw := hw.2 c4
    refine lv_aload_n hx hb px_d17_7 rfl (lv_at hl 2 rfl) ?_
    obtain ⟨hp8, hw⟩ := hw
    refine va_get (D := (dC, dI)) (ci := 9) (v := .int ((nv a2x).2.1)) (C := "MatroidDeskModel$Num") (T := px_T9) (N := 3) hx hb htw px_in9 hown hK hP (0 + a2x) (px_go rfl hp8) rfl 2 (by decide) (htw _ px_w272) (fun _ h9 => h9) rfl px_d17_8 ?_
    refine lv_if_ne (tgt := 18) hx hb px_d17_11 (by decide) (fun c11 => ?_) (fun c11 => ?_)
    · have hw := hw.1 c11
      exact S18 nv H locs ls hP hD hS (lv_sub hl [0, 1, 2] rfl) hw
    · have hw := hw.2 c11
      refine lv_iconst (v := 1) hx hb px_d17_14 (by decide) ?_
      refine lv_goto (tgt := 19) hx hb px_d17_15 (by decide) ?_
      exact S19 1 nv H locs ls hP hD hS (lv_sub hl [0, 1, 2] rfl) hw

/-! MatroidDeskModel.at(II)LMatroidDeskModel$Num; -/
def w47_wp (post : Nat → (Nat → Int32) → Prop) (a1x : Int32) (a2x : Int32) (iv : Nat → Int32) : Prop := vp_in ((12 * a1x) + a2x) 156 ∧ (post (Int32.toNatClampNeg ((12 * a1x) + a2x)) iv)
set_option maxHeartbeats 8000000 in
set_option maxRecDepth 100000 in
theorem w47_met (l : Launch) (dC : Nat → ClassId) (dI : Nat → Nat → Nat) (sz : Nat) (h0 : Nat) (rf : Nat → Nat) (hh : Nat → Nat) (c_work : ClassId) (a1x : Int32) (a2x : Int32) (iv : Nat → Int32) (post : Nat → (Nat → Int32) → Prop) (hw : w47_wp post a1x a2x iv) : Met l px_y47 px_s47 ({ frames := 0, cells := 0, slots := 0, locals := 0 }) (va_Pc [.ref h0, .int a1x, .int a2x] (fun U => U.heap.size = sz ∧ va_P (dC, dI) vwCl [(h0, .inr (8, px_mf (px_rf hh rf) iv)), ((px_rf hh rf) 8, .inl (c_work, 156, .inr (.inr (.inr (.inr (fun k => some (hh k)))))))] U.heap ∧ va_K (dC, dI) vwCl [(c_work, .object "MatroidDeskModel$Num")] U ∧ va_D (fun _ => True) [(h0, .inr (8, px_mf (px_rf hh rf) iv)), ((px_rf hh rf) 8, .inl (c_work, 156, .inr (.inr (.inr (.inr (fun k => some (hh k)))))))] ∧ px_N U)) (va_Qq (fun (r : Option Nat) (u : Nat × (Nat → Int32)) => r = some (hh u.1) ∧ post u.1 u.2) (fun (u : Nat × (Nat → Int32)) (t : State) => va_P (dC, dI) vwCl [(h0, .inr (8, px_mf (px_rf hh rf) u.2)), ((px_rf hh rf) 8, .inl (c_work, 156, .inr (.inr (.inr (.inr (fun k => some (hh k)))))))] t.heap ∧ va_K (dC, dI) vwCl [(c_work, .object "MatroidDeskModel$Num")] t ∧ va_D (va_A [(h0, .inr (8, px_mf (px_rf hh rf) iv)), ((px_rf hh rf) 8, .inl (c_work, 156, .inr (.inr (.inr (.inr (fun k => some (hh k)))))))] sz) [(h0, .inr (8, px_mf (px_rf hh rf) u.2)), ((px_rf hh rf) 8, .inl (c_work, 156, .inr (.inr (.inr (.inr (fun k => some (hh k)))))))]) (va_A [(h0, .inr (8, px_mf (px_rf hh rf) iv)), ((px_rf hh rf) 8, .inl (c_work, 156, .inr (.inr (.inr (.inr (fun k => some (hh k)))))))] sz)) 0 0 (va_A [(h0, .inr (8, px_mf (px_rf hh rf) iv)), ((px_rf hh rf) 8, .inl (c_work, 156, .inr (.inr (.inr (.inr (fun k => some (hh k)))))))] sz) := by
  refine Met.ofW (cc := prog_15_method_2_code) (maxL := 3) (ret := (some (.object "MatroidDeskModel$Num"))) (by decide) rfl ?_
  intro p e s m args below meth c s₁ B hml hv
  obtain ⟨rfl, hsz, hP, hK, hD0, hN⟩ := hv
  have hx := B.exec
  have hb := B.bytes
  have hr := B.returns
  have htw : ∀ w ∈ px_all, w.before _ s = true := fun w h => atoms_spec (ws := px_s47) B.pre w (List.mem_cons_of_mem _ h)
  have hown : s.vm.findClass "MatroidDeskModel" = some m.cls := findClass_of_methodNamed B.named
  have hlocks := B.notSynchronized
  subst hsz
  have hD := hD0.self (sz := s.heap.size)
  generalize hAe : va_A [(h0, .inr (8, px_mf (px_rf hh rf) iv)), ((px_rf hh rf) 8, .inl (c_work, 156, .inr (.inr (.inr (.inr (fun k => some (hh k)))))))] s.heap.size = A at hD ⊢
  have hA : ∀ q : Nat, s.heap.size ≤ q → A q := fun q h => by rw [← hAe]; exact Or.inr h
  have hS : va_S A s.heap s.heap [] := va_S.rf
  have hP : va_P (dC, dI) vwCl [(h0, .inr (8, px_mf (px_rf hh rf) iv)), ((px_rf hh rf) 8, .inl (c_work, 156, .inr (.inr (.inr (.inr (fun k => some (hh k)))))))] s.heap := hP
  have hl := lv_entry ([.ref h0, .int a1x, .int a2x]) (n := 3) (Nat.le_of_ble_eq_true rfl)
  rw [lg_entry_eq]
  generalize (lg_sl ([.ref h0, .int a1x, .int a2x]) ++ List.replicate (3 - (lg_sl ([.ref h0, .int a1x, .int a2x])).length) Slot.unset).toArray = ls at hl ⊢
  have hl : lv_has ls 3 [(0, .ref h0), (1, .int a1x), (2, .int a2x)] := hl
  generalize hQ : MQ _ _ _ _ _ _ _ = Q
  unfold w47_wp at hw
  have hS0 := hS
  obtain ⟨H, hH9⟩ : ∃ z, z = s.heap := ⟨_, rfl⟩
  have hP : va_P (dC, dI) vwCl [(h0, .inr (8, px_mf (px_rf hh rf) iv)), ((px_rf hh rf) 8, .inl (c_work, 156, .inr (.inr (.inr (.inr (fun k => some (hh k)))))))] H := by rw [hH9]; exact hP
  obtain ⟨locs, hlo9⟩ : ∃ z : List Loc, z = [] := ⟨_, rfl⟩
  have hS : va_S A s.heap H locs := by rw [hH9, hlo9]; exact hS
  suffices hG : W p l e (headSpec px_s47 ({ frames := 0, cells := 0, slots := 0, locals := 0 })).room s m ([.ref h0, .int a1x, .int a2x]).toArray below meth c H locs 0 0 Q (F0 m 0 ls []) by rw [hH9, hlo9] at hG; exact hG
  refine lv_aload_n hx hb px_d47_0 rfl (lv_at hl 0 rfl) ?_
  refine va_get (D := (dC, dI)) (ci := 8) (v := .ref ((px_rf hh rf) 8)) (C := "MatroidDeskModel") (T := px_T8) (N := 53) hx hb htw px_in8 hown hK hP 0 rfl rfl 8 (by decide) (htw _ px_w424) (fun _ h9 => h9) rfl px_d47_1 ?_
  refine lv_bipush (v := 12) hx hb px_d47_4 (by decide) ?_
  refine lv_iload_n hx hb px_d47_6 rfl (lv_at hl 1 rfl) ?_
  refine lv_imul hx hb px_d47_7 ?_
  refine lv_iload_n hx hb px_d47_8 rfl (lv_at hl 2 rfl) ?_
  refine lv_iadd hx hb px_d47_9 ?_
  obtain ⟨hi10, hw⟩ := hw
  refine va_aldq hx hb hK hP 1 0 rfl rfl hi10 px_d47_10 ?_
  refine W.eq (g2 := F0 m 11 ls (.ref (hh (Int32.toNatClampNeg ((12 * a1x) + a2x))) :: [])) rfl ?_
  rw [← hQ]
  exact W.aret hx hb hr (Or.inl ⟨_, rfl⟩) (Or.inr ⟨_, rfl⟩) (fun t ht hW => ⟨⟨some (hh (Int32.toNatClampNeg ((12 * a1x) + a2x))), ((Int32.toNatClampNeg ((12 * a1x) + a2x)), iv), rfl, ⟨rfl, hw⟩, by rw [ht]; exact hP, va_K.moved hW.alike hK, hD⟩, hS.F ht⟩) hS.2.2 px_d47_11

