set_option maxHeartbeats 4000000 in
set_option maxRecDepth 100000 in
/-- end(x), x not 0 -/
theorem px_M_end1 (l : Launch) (dC : Nat → ClassId) (dI : Nat → Nat → Nat) (sz : Nat) (h0 : Nat) (fs : List Value) (x : Int32) (hlen : fs.length = 53) (hk_51 : fs[51]? = some (.int 0)) (hx0 : ¬ x = 0) : Met l px_y43 px_s43 ({ frames := 0, cells := 0, slots := 0, locals := 0 }) (va_Pc [.ref h0, .int x] (fun U => U.heap.size = sz ∧ va_P (dC, dI) vwCl [(h0, .inr (8, fs))] U.heap ∧ va_K (dC, dI) vwCl [] U ∧ va_D (fun _ => True) [(h0, .inr (8, fs))] ∧ px_N U)) (va_Qi (fun (r : Int32) (_ : Unit) => r = 0) (fun (_ : Unit) (t : State) => va_P (dC, dI) vwCl [(h0, .inr (8, (fs.set 49 (.int 1))))] t.heap ∧ va_K (dC, dI) vwCl [] t ∧ va_D (va_A [(h0, .inr (8, fs))] sz) [(h0, .inr (8, (fs.set 49 (.int 1))))]) (va_A [(h0, .inr (8, fs))] sz)) 0 0 (va_A [(h0, .inr (8, fs))] sz) := by
  refine Met.ofW (cc := prog_15_method_91_code) (maxL := 3) (ret := (some .int)) (by decide) rfl ?_
  intro p e s m args below meth c s₁ B hml hv
  obtain ⟨rfl, hsz, hP, hK, hD0, hN⟩ := hv
  have hx := B.exec
  have hb := B.bytes
  have hr := B.returns
  have htw : ∀ w ∈ px_all, w.before _ s = true := fun w h => atoms_spec (ws := px_s43) B.pre w (List.mem_cons_of_mem _ h)
  have hown : s.vm.findClass "MatroidDeskModel" = some m.cls := findClass_of_methodNamed B.named
  have hlocks := B.notSynchronized
  subst hsz
  have hD := hD0.self (sz := s.heap.size)
  generalize hAe : va_A [(h0, .inr (8, fs))] s.heap.size = A at hD ⊢
  have hA : ∀ q : Nat, s.heap.size ≤ q → A q := fun q h => by rw [← hAe]; exact Or.inr h
  have hS : va_S A s.heap s.heap [] := va_S.rf
  have hP : va_P (dC, dI) vwCl [(h0, .inr (8, fs))] s.heap := hP
  have hl := lv_entry ([.ref h0, .int x]) (n := 3) (Nat.le_of_ble_eq_true rfl)
  rw [lg_entry_eq]
  generalize (lg_sl ([.ref h0, .int x]) ++ List.replicate (3 - (lg_sl ([.ref h0, .int x])).length) Slot.unset).toArray = ls at hl ⊢
  have hl : lv_has ls 3 [(0, .ref h0), (1, .int x)] := hl
  refine lv_aload_n hx hb px_d43_0 rfl (lv_at hl 0 rfl) ?_
  refine lv_iload_n hx hb px_d43_1 rfl (lv_at hl 1 rfl) ?_
  refine lv_if_lt (tgt := 13) hx hb px_d43_2 (by decide) (fun c_2 => ?_) (fun c_2 => ?_)
  · refine lv_iconst (v := 1) hx hb px_d43_13 (by decide) ?_
    refine lv_goto (tgt := 18) hx hb px_d43_14 (by decide) ?_
    refine va_put (D := (dC, dI)) (ci := 8) (v := .int 1) (ty := .int) (C := "MatroidDeskModel") (T := px_T8) (N := 53) hx hb htw px_in8 px_ty8 px_tyok8 px_nm8 hown hK hP hD hS 0 rfl rfl 49 (by decide) (htw _ px_w402) (fun _ h9 => h9) rfl (by decide +kernel) rfl rfl (by rw [hlen]; decide) px_d43_18 (fun H locs hP hD hS => ?_)
    have hP : va_P (dC, dI) vwCl [(h0, .inr (8, (fs.set 49 (.int 1))))] H := hP
    have hD : va_D A [(h0, .inr (8, (fs.set 49 (.int 1))))] := hD
    refine lv_aload_n hx hb px_d43_21 rfl (lv_at hl 0 rfl) ?_
    refine va_get (D := (dC, dI)) (ci := 8) (v := .int 1) (C := "MatroidDeskModel") (T := px_T8) (N := 53) hx hb htw px_in8 hown hK hP 0 rfl rfl 49 (by decide) (htw _ px_w402) (fun _ h9 => h9) (px_ss hlen (by decide)) px_d43_22 ?_
    refine lv_if_le (tgt := 30) hx hb px_d43_25 (by decide) (fun h9 => absurd h9 (by decide +kernel)) (fun _ => ?_)
    refine lv_iconst (v := 0) hx hb px_d43_28 (by decide) ?_
    have hP9 := hP.sub (ws' := [(h0, .inr (8, (fs.set 49 (.int 1))))]) [0] rfl
    have hD9 := hD.sub (ws' := [(h0, .inr (8, (fs.set 49 (.int 1))))]) [0] (by decide) rfl
    have hK9 := hK.sub (tys' := []) [] rfl
    refine W.widen (k := 0) (n := 0) (Nat.le_of_ble_eq_true rfl) (Nat.le_of_ble_eq_true rfl) ?_
    exact W.iret (v := 0) hx hb hr (fun t ht hW => ⟨⟨0, (), rfl, rfl, by rw [ht]; exact hP9, va_K.moved hW.alike hK9, hD9⟩, hS.F ht⟩) hS.2.2 px_d43_29
  · refine lv_iload_n hx hb px_d43_5 rfl (lv_at hl 1 rfl) ?_
    refine lv_aload_n hx hb px_d43_6 rfl (lv_at hl 0 rfl) ?_
    refine va_get (D := (dC, dI)) (ci := 8) (v := .int 0) (C := "MatroidDeskModel") (T := px_T8) (N := 53) hx hb htw px_in8 hown hK hP 0 rfl rfl 51 (by decide) (htw _ px_w398) (fun _ h9 => h9) hk_51 px_d43_7 ?_
    refine lv_icmp_le (tgt := 17) hx hb px_d43_10 (by decide) (fun h9 => absurd h9 (px_npos hx0 c_2)) (fun _ => ?_)
    refine lv_iconst (v := 1) hx hb px_d43_13 (by decide) ?_
    refine lv_goto (tgt := 18) hx hb px_d43_14 (by decide) ?_
    refine va_put (D := (dC, dI)) (ci := 8) (v := .int 1) (ty := .int) (C := "MatroidDeskModel") (T := px_T8) (N := 53) hx hb htw px_in8 px_ty8 px_tyok8 px_nm8 hown hK hP hD hS 0 rfl rfl 49 (by decide) (htw _ px_w402) (fun _ h9 => h9) rfl (by decide +kernel) rfl rfl (by rw [hlen]; decide) px_d43_18 (fun H locs hP hD hS => ?_)
    have hP : va_P (dC, dI) vwCl [(h0, .inr (8, (fs.set 49 (.int 1))))] H := hP
    have hD : va_D A [(h0, .inr (8, (fs.set 49 (.int 1))))] := hD
    refine lv_aload_n hx hb px_d43_21 rfl (lv_at hl 0 rfl) ?_
    refine va_get (D := (dC, dI)) (ci := 8) (v := .int 1) (C := "MatroidDeskModel") (T := px_T8) (N := 53) hx hb htw px_in8 hown hK hP 0 rfl rfl 49 (by decide) (htw _ px_w402) (fun _ h9 => h9) (px_ss hlen (by decide)) px_d43_22 ?_
    refine lv_if_le (tgt := 30) hx hb px_d43_25 (by decide) (fun h9 => absurd h9 (by decide +kernel)) (fun _ => ?_)
    refine lv_iconst (v := 0) hx hb px_d43_28 (by decide) ?_
    have hP9 := hP.sub (ws' := [(h0, .inr (8, (fs.set 49 (.int 1))))]) [0] rfl
    have hD9 := hD.sub (ws' := [(h0, .inr (8, (fs.set 49 (.int 1))))]) [0] (by decide) rfl
    have hK9 := hK.sub (tys' := []) [] rfl
    refine W.widen (k := 0) (n := 0) (Nat.le_of_ble_eq_true rfl) (Nat.le_of_ble_eq_true rfl) ?_
    exact W.iret (v := 0) hx hb hr (fun t ht hW => ⟨⟨0, (), rfl, rfl, by rw [ht]; exact hP9, va_K.moved hW.alike hK9, hD9⟩, hS.F ht⟩) hS.2.2 px_d43_29
theorem px_gLE : GoodIn px_tl px_sLE := fun w hw => px_tg ((List.mem_cons.mp hw).elim (fun h => by rw [h]; exact List.mem_append_left _ px_v50) (fun h => (List.mem_append.mp h).elim (fun h => by
  simp only [px_xl, List.mem_cons, List.not_mem_nil, or_false] at h
  rcases h with rfl | rfl | rfl | rfl
  · exact List.mem_append_left _ px_v51
  · exact List.mem_append_left _ px_v52
  · exact List.mem_append_left _ px_v53
  · exact List.mem_append_left _ px_v54) (fun h => List.mem_append_right _ h)))
