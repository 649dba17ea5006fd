def px_xl : List Cond := [Cond.classLink "MatroidDesk" 103 "java/lang/IllegalArgumentException", Cond.instantiable "java/lang/IllegalArgumentException" 6, Cond.initialized "java/lang/IllegalArgumentException", Cond.classLink "MatroidDeskLaw" 19 "java/lang/IllegalArgumentException"]
theorem px_xl0 : Cond.classLink "MatroidDesk" 103 "java/lang/IllegalArgumentException" ∈ px_xl := List.mem_of_getElem? (l := px_xl) (i := 0) rfl
theorem px_xl1 : Cond.instantiable "java/lang/IllegalArgumentException" 6 ∈ px_xl := List.mem_of_getElem? (l := px_xl) (i := 1) rfl
theorem px_xl2 : Cond.initialized "java/lang/IllegalArgumentException" ∈ px_xl := List.mem_of_getElem? (l := px_xl) (i := 2) rfl
theorem px_xl3 : Cond.classLink "MatroidDeskLaw" 19 "java/lang/IllegalArgumentException" ∈ px_xl := List.mem_of_getElem? (l := px_xl) (i := 3) rfl
abbrev px_te : List Cond := px_xl ++ px_all
theorem px_xlgood : px_xl.all goodWord = true := by decide +kernel
theorem px_eg {w : Cond} (h : w ∈ px_te) : w ∈ px_te ∧ ((w.onTables && w.keeps) = true ∨ ∃ ty, w = .arrayClass ty) := ⟨h, (List.mem_append.mp h).elim (fun h => good_of_word (List.all_eq_true.mp px_xlgood w h)) (fun h => good_of_word (List.all_eq_true.mp px_allgood w h))⟩
abbrev px_sE : List Cond := Cond.code px_y13 prog_1_method_3_code 3 (some .int) :: px_te
abbrev px_sLE : List Cond := Cond.codeWith px_y70 method_4_code 4 (some .int) [(0, 9, 12, 19)] :: px_te
theorem px_gE : GoodIn px_te px_sE := fun w hw => px_eg ((List.mem_cons.mp hw).elim (fun h => by rw [h]; exact List.mem_append_right _ px_w297) (fun h => h))
theorem px_gEv : GoodIn px_te (wsV "MatroidDeskLaw" 15 "MatroidDesk" px_y13 px_sE) := fun w hw => by
  rcases List.mem_append.mp hw with h | h
  · have hm : w ∈ px_te := by
      simp only [List.mem_cons, List.not_mem_nil, or_false] at h
      rcases h with rfl | rfl | rfl | rfl
      · exact List.mem_append_right _ px_w499
      · exact List.mem_append_right _ px_w298
      · exact List.mem_append_right _ px_w299
      · exact List.mem_append_right _ px_w6
    exact px_eg hm
  · exact px_gE w h
theorem px_npos {x : Int32} (h : ¬ x = 0) (h0 : ¬ x < 0) : ¬ x ≤ 0 := fun h1 => h (by
  rw [Int32.lt_iff_toInt_lt, Int32.toInt_zero] at h0
  rw [Int32.le_iff_toInt_le, Int32.toInt_zero] at h1
  exact Int32.toInt_inj.mp (by rw [Int32.toInt_zero]; omega))
theorem px_adm {l : Launch} {e : Env} (h : l.admits e) : e.platform.stackTraces = l.stackTraces := by
  have h1 := h.2.2.2.2.1
  rw [h1]
set_option maxHeartbeats 4000000 in
set_option maxRecDepth 100000 in
/-- MatroidDesk.end(x), x not 0, of a new desk: IllegalArgumentException -/
theorem px_D_endT (l : Launch) (htr : l.stackTraces = false) (dC : Nat → ClassId) (dI : Nat → Nat → Nat) (sz : Nat) (h0 : Nat) (qb : Nat) (qm : Nat) (qe : Nat) (qo : Nat) (qi : Nat) (qw : Nat) (qt : Nat) (qs : Nat) (qp : Nat) (tq : Nat) (x : Int32) (hx0 : ¬ x = 0) : px_MT l px_y13 px_sE ({ frames := 6, cells := 1, slots := 6, locals := 100 }) (va_Pc [.ref h0, .int x] (fun U => U.heap.size = sz ∧ va_P (dC, dI) vwCl [(h0, .inr (0, [.ref qb, .int 0, .int (-1), .int 0, .int 0, .null, .ref qm, .ref qe, .ref qo, .ref qi, .ref qw, .ref qt, .ref qs, .ref qp]))] U.heap ∧ va_K (dC, dI) vwCl [] U ∧ va_D (fun _ => True) [(h0, .inr (0, [.ref qb, .int 0, .int (-1), .int 0, .int 0, .null, .ref qm, .ref qe, .ref qo, .ref qi, .ref qw, .ref qt, .ref qs, .ref qp]))] ∧ px_N U ∧ px_X U ∧ px_H U ∧ vk_R "MatroidDesk" 105 "not so many bytes came in" tq U)) (px_QT "java/lang/IllegalArgumentException") 1 6 (fun _ => False) := by
  refine px_MTof (cc := prog_1_method_3_code) (maxL := 3) (ret := (some .int)) (by decide) rfl ?_
  intro p e s m args below meth c s₁ B hml hv
  obtain ⟨rfl, hsz, hP, hK, hD0, hN, hX, hH, hZ⟩ := hv
  have hx := B.exec
  have hb := B.bytes
  have hr := B.returns
  have hlocks := B.notSynchronized
  have hte : ∀ w ∈ px_te, w.before _ s = true := fun w h => atoms_spec (ws := px_sE) B.pre w (List.mem_cons_of_mem _ h)
  have htw : ∀ w ∈ px_all, w.before _ s = true := fun w h => hte w (List.mem_append_right _ h)
  have hown : s.vm.findClass "MatroidDesk" = some m.cls := findClass_of_methodNamed B.named
  have htab : c.exceptionTable.isEmpty = true := B.noHandlers (atoms_spec (ws := px_sE) B.pre _ List.mem_cons_self)
  have htr9 : e.platform.stackTraces = false := by rw [px_adm (Stand.of_body B).admits]; exact htr
  have hP : va_P (dC, dI) vwCl [(h0, .inr (0, [.ref qb, .int 0, .int (-1), .int 0, .int 0, .null, .ref qm, .ref qe, .ref qo, .ref qi, .ref qw, .ref qt, .ref qs, .ref qp]))] s.heap := hP
  have hl := lv_entry ([.ref h0, .int x]) (n := 3) (Nat.le_of_ble_eq_true rfl)
  rw [lg_entry_eq]
  generalize (lg_sl ([.ref h0, .int x]) ++ List.replicate (3 - (lg_sl ([.ref h0, .int x])).length) Slot.unset).toArray = ls at hl ⊢
  have hl : lv_has ls 3 [(0, .ref h0), (1, .int x)] := hl
  refine lv_iload_n hx hb px_d13_0 rfl (lv_at hl 1 rfl) ?_
  refine lv_if_lt (tgt := 12) hx hb px_d13_1 (by decide) (fun c_1 => ?_) (fun c_1 => ?_)
  · exact px_throw hx hb hml htr9 hlocks htab hown (hte _ (List.mem_append_left _ px_xl0)) (hte _ (List.mem_append_left _ px_xl1)) (hte _ (List.mem_append_left _ px_xl2)) hX hH hZ hl.1 px_d13_12 px_d13_15 px_d13_16 px_d13_18 px_d13_21 (Nat.le_of_ble_eq_true rfl) (Nat.le_of_ble_eq_true rfl) (Nat.le_of_ble_eq_true rfl) (Nat.le_of_ble_eq_true rfl)
  · refine lv_iload_n hx hb px_d13_4 rfl (lv_at hl 1 rfl) ?_
    refine lv_aload_n hx hb px_d13_5 rfl (lv_at hl 0 rfl) ?_
    refine va_get (D := (dC, dI)) (ci := 0) (v := .int 0) (C := "MatroidDesk") (T := px_T0) (N := 14) hx hb htw px_in0 hown hK hP 0 rfl rfl 1 (by decide) (htw _ px_w210) (fun _ h9 => h9) rfl px_d13_6 ?_
    refine lv_icmp_le (tgt := 22) hx hb px_d13_9 (by decide) (fun h9 => absurd h9 (px_npos hx0 c_1)) (fun _ => ?_)
    exact px_throw hx hb hml htr9 hlocks htab hown (hte _ (List.mem_append_left _ px_xl0)) (hte _ (List.mem_append_left _ px_xl1)) (hte _ (List.mem_append_left _ px_xl2)) hX hH hZ hl.1 px_d13_12 px_d13_15 px_d13_16 px_d13_18 px_d13_21 (Nat.le_of_ble_eq_true rfl) (Nat.le_of_ble_eq_true rfl) (Nat.le_of_ble_eq_true rfl) (Nat.le_of_ble_eq_true rfl)
set_option maxHeartbeats 4000000 in
set_option maxRecDepth 100000 in
/-- the law's end, of x not 0: the exception is caught: 1 -/
theorem px_L_endT (l : Launch) (htr : l.stackTraces = false) (dC : Nat → ClassId) (dI : Nat → Nat → Nat) (sz : Nat) (h0 : Nat) (qb : Nat) (qm : Nat) (qe : Nat) (qo : Nat) (qi : Nat) (qw : Nat) (qt : Nat) (qs : Nat) (qp : Nat) (tq ot : Nat) (x : Int32) (hx0 : ¬ x = 0) : Met l px_y70 px_sLE ({ frames := 7, cells := 1, slots := 6, locals := 122 }) (va_Pc [.ref h0, .int x, .ref ot] (fun U => U.heap.size = sz ∧ va_P (dC, dI) vwCl [(h0, .inr (0, [.ref qb, .int 0, .int (-1), .int 0, .int 0, .null, .ref qm, .ref qe, .ref qo, .ref qi, .ref qw, .ref qt, .ref qs, .ref qp]))] U.heap ∧ va_K (dC, dI) vwCl [] U ∧ va_D (fun _ => True) [(h0, .inr (0, [.ref qb, .int 0, .int (-1), .int 0, .int 0, .null, .ref qm, .ref qe, .ref qo, .ref qi, .ref qw, .ref qt, .ref qs, .ref qp]))] ∧ px_N U ∧ px_X U ∧ px_H U ∧ vk_R "MatroidDesk" 105 "not so many bytes came in" tq U)) (va_Qi (fun (r : Int32) (_ : Unit) => r = 1) (fun (_ : Unit) (t : State) => va_P (dC, dI) vwCl [] t.heap ∧ va_K (dC, dI) vwCl [] t ∧ va_D (va_A [(h0, .inr (0, [.ref qb, .int 0, .int (-1), .int 0, .int 0, .null, .ref qm, .ref qe, .ref qo, .ref qi, .ref qw, .ref qt, .ref qs, .ref qp]))] sz) []) (va_A [(h0, .inr (0, [.ref qb, .int 0, .int (-1), .int 0, .int 0, .null, .ref qm, .ref qe, .ref qo, .ref qi, .ref qw, .ref qt, .ref qs, .ref qp]))] sz)) 1 6 (va_A [(h0, .inr (0, [.ref qb, .int 0, .int (-1), .int 0, .int 0, .null, .ref qm, .ref qe, .ref qo, .ref qi, .ref qw, .ref qt, .ref qs, .ref qp]))] sz) := by
  refine px_ofW (cc := method_4_code) (maxL := 4) (ret := (some .int)) (hs := [(0, 9, 12, 19)]) (by decide) rfl ?_
  intro p e s m args below meth c s₁ B hml htab hv
  obtain ⟨rfl, hsz, hP, hK, hD0, hN, hX, hH, hZ⟩ := hv
  have hx := B.exec
  have hb := B.bytes
  have hr := B.returns
  have hlocks := B.notSynchronized
  have hte : ∀ w ∈ px_te, w.before _ s = true := fun w h => atoms_spec (ws := px_sLE) B.pre w (List.mem_cons_of_mem _ h)
  have htw : ∀ w ∈ px_all, w.before _ s = true := fun w h => hte w (List.mem_append_right _ h)
  have hown : s.vm.findClass "MatroidDeskLaw" = some m.cls := findClass_of_methodNamed B.named
  subst hsz
  have hP : va_P (dC, dI) vwCl [(h0, .inr (0, [.ref qb, .int 0, .int (-1), .int 0, .int 0, .null, .ref qm, .ref qe, .ref qo, .ref qi, .ref qw, .ref qt, .ref qs, .ref qp]))] s.heap := hP
  have hl := lv_entry ([.ref h0, .int x, .ref ot]) (n := 4) (Nat.le_of_ble_eq_true rfl)
  rw [lg_entry_eq]
  generalize (lg_sl ([.ref h0, .int x, .ref ot]) ++ List.replicate (4 - (lg_sl ([.ref h0, .int x, .ref ot])).length) Slot.unset).toArray = ls at hl ⊢
  have hl : lv_has ls 4 [(0, .ref h0), (1, .int x), (2, .ref ot)] := hl
  refine lv_aload_n hx hb px_d70_0 rfl (lv_at hl 2 rfl) ?_
  refine lv_iconst (v := 0) hx hb px_d70_1 (by decide) ?_
  refine lv_aload_n hx hb px_d70_2 rfl (lv_at hl 0 rfl) ?_
  refine lv_iload_n hx hb px_d70_3 rfl (lv_at hl 1 rfl) ?_
  refine px_runT (As := [.int x]) (rest := [.int 0, .ref ot]) (Qc := px_QT "java/lang/IllegalArgumentException") (x0 := ⟨0, 9, 12, 19⟩) (name := "java/lang/IllegalArgumentException") ⟨hx, hb, hml, hown, hte⟩ (px_D_endT l htr dC dI s.heap.size h0 qb qm qe qo qi qw qt qs qp tq x hx0) (cwV 1 hte px_gEv rfl rfl rfl (by decide +kernel) ⟨Nat.le_of_ble_eq_true rfl, Nat.le_of_ble_eq_true rfl⟩) ⟨fun a U g mk q => by obtain ⟨q0, q1, qP, qK, qD, qN, qX, qH, qZ⟩ := q; exact ⟨q0, q1, qP, va_K.moved (u := U) (U := U.calling g mk a) (Vm.Alike.refl U.vm) qK, qD, qN.same rfl, qX.same rfl, qH.go (Vm.Alike.refl U.vm) (fun _ _ => rfl), vk_R.same rfl qZ⟩, va_recv hK hP (ci := 0) (q0 := 0) rfl rfl, fun U hU hW => ⟨rfl, by rw [hU], by rw [hU]; exact hP, va_K.moved hW.alike hK, hD0, hN.warm hW, hX.warm hW, hH.go hW.alike (fun q _ => by rw [hU]), vk_R.warm hW hZ⟩⟩ rfl hl.1 (Nat.le_of_ble_eq_true rfl) px_d70_4 ⟨Nat.le_of_ble_eq_true rfl, Nat.le_of_ble_eq_true rfl⟩ htab (by decide) (by decide) (hte _ (List.mem_append_left _ px_xl3)) (fun _ _ _ _ h => h.1) (fun x1 st t L hst hal hq hL => ?_)
  refine W.eq (g2 := F0 m 12 ls [.ref x1]) rfl ?_
  refine lv_astore_n (lv' := [(3, .ref x1), (0, .ref h0), (1, .int x), (2, .ref ot)]) hx hb px_d70_12 rfl hl (by decide) rfl (fun ls hl => ?_)
  refine lv_iconst (v := 1) hx hb px_d70_13 (by decide) ?_
  refine W.widen (k := 1) (n := 6) (Nat.le_of_ble_eq_true rfl) (Nat.le_of_ble_eq_true rfl) ?_
  have hF9 : ∀ t2 : State, t2.heap = t.heap → va_F (va_A [(h0, .inr (0, [.ref qb, .int 0, .int (-1), .int 0, .int 0, .null, .ref qm, .ref qe, .ref qo, .ref qi, .ref qw, .ref qt, .ref qs, .ref qp]))] s.heap.size) s t2 := fun t2 h2 => ⟨by rw [h2, ← hst]; exact hq.2.1, fun q h3 _ => by rw [h2, hq.2.2 q (by rw [hst]; exact h3), hst]⟩
  exact W.iret (v := 1) hx hb hr (fun t2 ht hW => ⟨⟨1, (), rfl, rfl, fun k q h => by simp at h, va_K.moved hW.alike (hK.sub [] rfl), ⟨fun i j p q h => by simp at h, fun k q h => by simp at h⟩⟩, hF9 t2 ht⟩) (fun q hq2 => (hL q (by simpa using hq2)).elim) px_d70_14
