def nqu_L136 (post : Int32 → Int32 → (Nat → Int32) → Int32 → Int32 → (Nat → Int32) → Int32 → Int32 → (Nat → Int32) → Int32 → Int32 → (Nat → Int32) → Prop) (x4 : Int32) (y0 : Int32) (n0 : Int32) (m0 : Int32) (f0 : Nat → Int32) (n1 : Int32) (m1 : Int32) (f1 : Nat → Int32) (n2 : Int32) (m2 : Int32) (f2 : Nat → Int32) (n3 : Int32) (m3 : Int32) (f3 : Nat → Int32) : Prop := (narrow .boolean (.int y0) = .int y0 ∧ fits .boolean (.int y0) = true) ∧ (nt_wp (fun v1 v2 v3 => post v1 v2 v3 n1 m1 f1 n2 m2 f2 n3 m3 f3) n0 y0 f0)
def nqu_L105 (K12 : Int32 → Int32 → Int32 → (Nat → Int32) → Int32 → Int32 → (Nat → Int32) → Int32 → Int32 → (Nat → Int32) → Int32 → Int32 → (Nat → Int32) → Prop) (post : Int32 → Int32 → (Nat → Int32) → Int32 → Int32 → (Nat → Int32) → Int32 → Int32 → (Nat → Int32) → Int32 → Int32 → (Nat → Int32) → Prop) (x4 : Int32) (x5 : Int32) (n0 : Int32) (m0 : Int32) (f0 : Nat → Int32) (n1 : Int32) (m1 : Int32) (f1 : Nat → Int32) (n2 : Int32) (m2 : Int32) (f2 : Nat → Int32) (n3 : Int32) (m3 : Int32) (f3 : Nat → Int32) : Prop := ∀ z4 : Int32, z4 = x4 + (-1) → K12 z4 n0 m0 f0 n1 m1 f1 n2 m2 f2 n3 m3 f3
def nqu_L23 (K12 : Int32 → Int32 → Int32 → (Nat → Int32) → Int32 → Int32 → (Nat → Int32) → Int32 → Int32 → (Nat → Int32) → Int32 → Int32 → (Nat → Int32) → Prop) (post : Int32 → Int32 → (Nat → Int32) → Int32 → Int32 → (Nat → Int32) → Int32 → Int32 → (Nat → Int32) → Int32 → Int32 → (Nat → Int32) → Prop) : Nat → Int32 → Int32 → Int32 → Int32 → (Nat → Int32) → Int32 → Int32 → (Nat → Int32) → Int32 → Int32 → (Nat → Int32) → Int32 → Int32 → (Nat → Int32) → Prop
  | 0 => fun _ _ _ _ _ _ _ _ _ _ _ _ _ _ => False
  | k + 1 => fun x4 x5 n0 m0 f0 n1 m1 f1 n2 m2 f2 n3 m3 f3 => (x5 ≤ 0 → vp_in x4 160 ∧ (∀ z5 : Int32, z5 = f1 (Int32.toNatClampNeg x4) → vp_in 0 160 ∧ (∀ z6 : Int32, z6 = n3 + 1 → nt_wp (fun v7 v8 v9 => vp_in x4 160 ∧ (ncs_wp (fun r87 v10 v11 v12 v13 v14 v15 => (r87 < 0 → nqu_L105 K12 post x4 x5 n0 m0 (upd f0 (Int32.toNatClampNeg x4) 0) n1 m1 f1 v13 v14 v15 v10 v11 v12) ∧ (¬ r87 < 0 → nof_wp (fun r101 v16 v17 v18 v19 v20 v21 => vp_in x4 160 ∧ (nqu_L105 K12 post x4 x5 n0 m0 (upd (upd f0 (Int32.toNatClampNeg x4) 0) (Int32.toNatClampNeg x4) r101) n1 m1 f1 v19 v20 v21 v16 v17 v18)) v10 v11 v12 v13 v14 v15)) v7 v8 v9 n2 m2 f2)) z6 m3 (upd f3 (Int32.toNatClampNeg 0) z5)))) ∧ (¬ x5 ≤ 0 → vp_in (x5 - 1) 160 ∧ (∀ z22 : Int32, z22 = f3 (Int32.toNatClampNeg (x5 - 1)) → vp_in x5 160 ∧ (∀ z23 : Int32, z23 = x5 + (-1) → (nqu_L23 K12 post k) x4 z23 n0 m0 f0 n1 m1 f1 n2 m2 f2 n3 m3 (upd f3 (Int32.toNatClampNeg x5) z22))))
def nqu_L12 (post : Int32 → Int32 → (Nat → Int32) → Int32 → Int32 → (Nat → Int32) → Int32 → Int32 → (Nat → Int32) → Int32 → Int32 → (Nat → Int32) → Prop) : Nat → Int32 → Int32 → Int32 → (Nat → Int32) → Int32 → Int32 → (Nat → Int32) → Int32 → Int32 → (Nat → Int32) → Int32 → Int32 → (Nat → Int32) → Prop
  | 0 => fun _ _ _ _ _ _ _ _ _ _ _ _ _ => False
  | k + 1 => fun x4 n0 m0 f0 n1 m1 f1 n2 m2 f2 n3 m3 f3 => (x4 < 0 → (m1 = m2 → nqu_L136 post x4 0 n1 m0 f0 n1 m1 f1 n2 m2 f2 n3 m3 f3) ∧ (¬ m1 = m2 → nqu_L136 post x4 1 n1 m0 f0 n1 m1 f1 n2 m2 f2 n3 m3 f3)) ∧ (¬ x4 < 0 → ∃ j23, nqu_L23 (nqu_L12 post k) post j23 x4 n3 n0 m0 f0 n1 m1 f1 n2 m2 f2 n3 m3 f3)
def nqu_wp (post : Int32 → Int32 → (Nat → Int32) → Int32 → Int32 → (Nat → Int32) → Int32 → Int32 → (Nat → Int32) → Int32 → Int32 → (Nat → Int32) → Prop) (n0 : Int32) (m0 : Int32) (f0 : Nat → Int32) (n1 : Int32) (m1 : Int32) (f1 : Nat → Int32) (n2 : Int32) (m2 : Int32) (f2 : Nat → Int32) (n3 : Int32) (m3 : Int32) (f3 : Nat → Int32) : Prop := nz_wp (fun v24 v25 v26 => ∀ z27 : Int32, z27 = n1 - 1 → ∃ j12, nqu_L12 post j12 z27 n0 m0 f0 n1 m1 f1 n2 m2 f2 v24 v25 v26) n3 m3 f3
set_option maxHeartbeats 8000000 in
set_option maxRecDepth 100000 in
theorem nqu_met (l : Launch) (dC : Nat → ClassId) (dI : Nat → Nat → Nat) (sz : Nat) (h0 : Nat) (q0 : Nat) (h1 : Nat) (q1 : Nat) (h2 : Nat) (q2 : Nat) (h3 : Nat) (q3 : Nat) (c0 : ClassId) (c1 : ClassId) (c2 : ClassId) (c3 : ClassId) (n0 : Int32) (m0 : Int32) (f0 : Nat → Int32) (n1 : Int32) (m1 : Int32) (f1 : Nat → Int32) (n2 : Int32) (m2 : Int32) (f2 : Nat → Int32) (n3 : Int32) (m3 : Int32) (f3 : Nat → Int32) (post : Int32 → Int32 → (Nat → Int32) → Int32 → Int32 → (Nat → Int32) → Int32 → Int32 → (Nat → Int32) → Int32 → Int32 → (Nat → Int32) → Prop) (hw : nqu_wp post n0 m0 f0 n1 m1 f1 n2 m2 f2 n3 m3 f3) : Met l px_y19 px_s19 ({ frames := 2, cells := 0, slots := 0, locals := 55 }) (va_Pc [.ref h0, .ref h1, .ref h2, .ref h3] (fun U => U.heap.size = sz ∧ va_P (dC, dI) vwCl [(h0, .inr (9, [.ref q0, .int n0, .int m0])), (q0, .inl (c0, 160, .inl f0)), (h1, .inr (9, [.ref q1, .int n1, .int m1])), (q1, .inl (c1, 160, .inl f1)), (h2, .inr (9, [.ref q2, .int n2, .int m2])), (q2, .inl (c2, 160, .inl f2)), (h3, .inr (9, [.ref q3, .int n3, .int m3])), (q3, .inl (c3, 160, .inl f3))] U.heap ∧ va_K (dC, dI) vwCl [(c0, .int), (c1, .int), (c2, .int), (c3, .int)] U ∧ va_D (fun _ => True) [(h0, .inr (9, [.ref q0, .int n0, .int m0])), (q0, .inl (c0, 160, .inl f0)), (h1, .inr (9, [.ref q1, .int n1, .int m1])), (q1, .inl (c1, 160, .inl f1)), (h2, .inr (9, [.ref q2, .int n2, .int m2])), (q2, .inl (c2, 160, .inl f2)), (h3, .inr (9, [.ref q3, .int n3, .int m3])), (q3, .inl (c3, 160, .inl f3))] ∧ px_N U)) (va_Qv (fun (u : Int32 × Int32 × (Nat → Int32) × Int32 × Int32 × (Nat → Int32) × Int32 × Int32 × (Nat → Int32) × Int32 × Int32 × (Nat → Int32)) => post u.1 u.2.1 u.2.2.1 u.2.2.2.1 u.2.2.2.2.1 u.2.2.2.2.2.1 u.2.2.2.2.2.2.1 u.2.2.2.2.2.2.2.1 u.2.2.2.2.2.2.2.2.1 u.2.2.2.2.2.2.2.2.2.1 u.2.2.2.2.2.2.2.2.2.2.1 u.2.2.2.2.2.2.2.2.2.2.2) (fun (u : Int32 × Int32 × (Nat → Int32) × Int32 × Int32 × (Nat → Int32) × Int32 × Int32 × (Nat → Int32) × Int32 × Int32 × (Nat → Int32)) (t : State) => va_P (dC, dI) vwCl [(h0, .inr (9, [.ref q0, .int u.1, .int u.2.1])), (q0, .inl (c0, 160, .inl u.2.2.1)), (h1, .inr (9, [.ref q1, .int u.2.2.2.1, .int u.2.2.2.2.1])), (q1, .inl (c1, 160, .inl u.2.2.2.2.2.1)), (h2, .inr (9, [.ref q2, .int u.2.2.2.2.2.2.1, .int u.2.2.2.2.2.2.2.1])), (q2, .inl (c2, 160, .inl u.2.2.2.2.2.2.2.2.1)), (h3, .inr (9, [.ref q3, .int u.2.2.2.2.2.2.2.2.2.1, .int u.2.2.2.2.2.2.2.2.2.2.1])), (q3, .inl (c3, 160, .inl u.2.2.2.2.2.2.2.2.2.2.2))] t.heap ∧ va_K (dC, dI) vwCl [(c0, .int), (c1, .int), (c2, .int), (c3, .int)] t ∧ va_D (va_A [(h0, .inr (9, [.ref q0, .int n0, .int m0])), (q0, .inl (c0, 160, .inl f0)), (h1, .inr (9, [.ref q1, .int n1, .int m1])), (q1, .inl (c1, 160, .inl f1)), (h2, .inr (9, [.ref q2, .int n2, .int m2])), (q2, .inl (c2, 160, .inl f2)), (h3, .inr (9, [.ref q3, .int n3, .int m3])), (q3, .inl (c3, 160, .inl f3))] sz) [(h0, .inr (9, [.ref q0, .int u.1, .int u.2.1])), (q0, .inl (c0, 160, .inl u.2.2.1)), (h1, .inr (9, [.ref q1, .int u.2.2.2.1, .int u.2.2.2.2.1])), (q1, .inl (c1, 160, .inl u.2.2.2.2.2.1)), (h2, .inr (9, [.ref q2, .int u.2.2.2.2.2.2.1, .int u.2.2.2.2.2.2.2.1])), (q2, .inl (c2, 160, .inl u.2.2.2.2.2.2.2.2.1)), (h3, .inr (9, [.ref q3, .int u.2.2.2.2.2.2.2.2.2.1, .int u.2.2.2.2.2.2.2.2.2.2.1])), (q3, .inl (c3, 160, .inl u.2.2.2.2.2.2.2.2.2.2.2))]) (va_A [(h0, .inr (9, [.ref q0, .int n0, .int m0])), (q0, .inl (c0, 160, .inl f0)), (h1, .inr (9, [.ref q1, .int n1, .int m1])), (q1, .inl (c1, 160, .inl f1)), (h2, .inr (9, [.ref q2, .int n2, .int m2])), (q2, .inl (c2, 160, .inl f2)), (h3, .inr (9, [.ref q3, .int n3, .int m3])), (q3, .inl (c3, 160, .inl f3))] sz)) 0 0 (va_A [(h0, .inr (9, [.ref q0, .int n0, .int m0])), (q0, .inl (c0, 160, .inl f0)), (h1, .inr (9, [.ref q1, .int n1, .int m1])), (q1, .inl (c1, 160, .inl f1)), (h2, .inr (9, [.ref q2, .int n2, .int m2])), (q2, .inl (c2, 160, .inl f2)), (h3, .inr (9, [.ref q3, .int n3, .int m3])), (q3, .inl (c3, 160, .inl f3))] sz) := by
  refine Met.ofW (cc := prog_16_method_12_code) (maxL := 6) (ret := none) (by decide) rfl ?_
  intro p e s m args below meth c s₁ B hml hv
  obtain ⟨rfl, hsz, hP, hK, hD0, hN⟩ := hv
  have hx := B.exec
  have hb := B.bytes
  have hr := B.returns
  have htw : ∀ w ∈ px_all, w.before _ s = true := fun w h => atoms_spec (ws := px_s19) B.pre w (List.mem_cons_of_mem _ h)
  have hown : s.vm.findClass "MatroidDeskModel$Num" = some m.cls := findClass_of_methodNamed B.named
  have hlocks := B.notSynchronized
  subst hsz
  have hD := hD0.self (sz := s.heap.size)
  generalize hAe : va_A [(h0, .inr (9, [.ref q0, .int n0, .int m0])), (q0, .inl (c0, 160, .inl f0)), (h1, .inr (9, [.ref q1, .int n1, .int m1])), (q1, .inl (c1, 160, .inl f1)), (h2, .inr (9, [.ref q2, .int n2, .int m2])), (q2, .inl (c2, 160, .inl f2)), (h3, .inr (9, [.ref q3, .int n3, .int m3])), (q3, .inl (c3, 160, .inl f3))] s.heap.size = A at hD ⊢
  have hA : ∀ q : Nat, s.heap.size ≤ q → A q := fun q h => by rw [← hAe]; exact Or.inr h
  have hS : va_S A s.heap s.heap [] := va_S.rf
  have hP : va_P (dC, dI) vwCl [(h0, .inr (9, [.ref q0, .int n0, .int m0])), (q0, .inl (c0, 160, .inl f0)), (h1, .inr (9, [.ref q1, .int n1, .int m1])), (q1, .inl (c1, 160, .inl f1)), (h2, .inr (9, [.ref q2, .int n2, .int m2])), (q2, .inl (c2, 160, .inl f2)), (h3, .inr (9, [.ref q3, .int n3, .int m3])), (q3, .inl (c3, 160, .inl f3))] s.heap := hP
  have hl := lv_entry ([.ref h0, .ref h1, .ref h2, .ref h3]) (n := 6) (Nat.le_of_ble_eq_true rfl)
  rw [lg_entry_eq]
  generalize (lg_sl ([.ref h0, .ref h1, .ref h2, .ref h3]) ++ List.replicate (6 - (lg_sl ([.ref h0, .ref h1, .ref h2, .ref h3])).length) Slot.unset).toArray = ls at hl ⊢
  have hl : lv_has ls 6 [(0, .ref h0), (1, .ref h1), (2, .ref h2), (3, .ref h3)] := hl
  generalize hQ : MQ _ _ _ _ _ _ _ = Q
  have S136 : ∀ (x4 : Int32) (y0 : Int32) (n0 : Int32) (m0 : Int32) (f0 : Nat → Int32) (n1 : Int32) (m1 : Int32) (f1 : Nat → Int32) (n2 : Int32) (m2 : Int32) (f2 : Nat → Int32) (n3 : Int32) (m3 : Int32) (f3 : Nat → Int32) (H : Heap) (locs : List Loc) (ls : Array Slot), va_P (dC, dI) vwCl [(h0, .inr (9, [.ref q0, .int n0, .int m0])), (q0, .inl (c0, 160, .inl f0)), (h1, .inr (9, [.ref q1, .int n1, .int m1])), (q1, .inl (c1, 160, .inl f1)), (h2, .inr (9, [.ref q2, .int n2, .int m2])), (q2, .inl (c2, 160, .inl f2)), (h3, .inr (9, [.ref q3, .int n3, .int m3])), (q3, .inl (c3, 160, .inl f3))] H → va_D A [(h0, .inr (9, [.ref q0, .int n0, .int m0])), (q0, .inl (c0, 160, .inl f0)), (h1, .inr (9, [.ref q1, .int n1, .int m1])), (q1, .inl (c1, 160, .inl f1)), (h2, .inr (9, [.ref q2, .int n2, .int m2])), (q2, .inl (c2, 160, .inl f2)), (h3, .inr (9, [.ref q3, .int n3, .int m3])), (q3, .inl (c3, 160, .inl f3))] → va_S A s.heap H locs → lv_has ls 6 [(0, .ref h0), (1, .ref h1), (2, .ref h2), (3, .ref h3), (4, .int x4)] → nqu_L136 post x4 y0 n0 m0 f0 n1 m1 f1 n2 m2 f2 n3 m3 f3 → W p l e (headSpec px_s19 ({ frames := 2, cells := 0, slots := 0, locals := 55 })).room s m ([.ref h0, .ref h1, .ref h2, .ref h3]).toArray below meth c H locs 0 0 Q (F0 m 136 ls [.int y0, .ref h0]) := by
    intro x4 y0 n0 m0 f0 n1 m1 f1 n2 m2 f2 n3 m3 f3 H locs ls hP hD hS hl hw
    unfold nqu_L136 at hw
    obtain ⟨hz136, hw⟩ := hw
    refine va_put (D := (dC, dI)) (ci := 9) (v := .int y0) (ty := .boolean) (C := "MatroidDeskModel$Num") (T := px_T9) (N := 3) hx hb htw px_in9 px_ty9 px_tyok9 px_nm9 hown hK hP hD hS 0 rfl rfl 2 (by decide) (htw _ px_w272) (fun _ h9 => h9) rfl (by decide +kernel) (hz136).1 (hz136).2 (Nat.le_of_ble_eq_true rfl) px_d19_136 (fun H locs hP hD hS => ?_)
    have hP : va_P (dC, dI) vwCl [(h0, .inr (9, [.ref q0, .int n0, .int y0])), (q0, .inl (c0, 160, .inl f0)), (h1, .inr (9, [.ref q1, .int n1, .int m1])), (q1, .inl (c1, 160, .inl f1)), (h2, .inr (9, [.ref q2, .int n2, .int m2])), (q2, .inl (c2, 160, .inl f2)), (h3, .inr (9, [.ref q3, .int n3, .int m3])), (q3, .inl (c3, 160, .inl f3))] H := hP
    have hD : va_D A [(h0, .inr (9, [.ref q0, .int n0, .int y0])), (q0, .inl (c0, 160, .inl f0)), (h1, .inr (9, [.ref q1, .int n1, .int m1])), (q1, .inl (c1, 160, .inl f1)), (h2, .inr (9, [.ref q2, .int n2, .int m2])), (q2, .inl (c2, 160, .inl f2)), (h3, .inr (9, [.ref q3, .int n3, .int m3])), (q3, .inl (c3, 160, .inl f3))] := hD
    refine lv_aload_n hx hb px_d19_139 rfl (lv_at hl 0 rfl) ?_
    have hPc := hP.sub (ws' := [(h0, .inr (9, [.ref q0, .int n0, .int y0])), (q0, .inl (c0, 160, .inl f0))]) [0, 1] rfl
    have hDc := hD.sub (ws' := [(h0, .inr (9, [.ref q0, .int n0, .int y0])), (q0, .inl (c0, 160, .inl f0))]) [0, 1] (by decide) rfl
    have hKc := hK.sub (tys' := [(c0, .int)]) [0] rfl
    have hFc := va_free (wc := [(h0, .inr (9, [.ref q0, .int n0, .int y0])), (q0, .inl (c0, 160, .inl f0))]) hD hS hA [0, 1] rfl
    refine va_callv (va_runV (As := []) (rest := []) ⟨hx, hb, hml, hown, htw⟩ (nt_met l dC dI H.size h0 q0 c0 n0 y0 f0 _ hw) (cwV 0 htw (px_gv px_w300 px_w291 px_w292 px_w149 px_g15) rfl rfl rfl (by decide +kernel) ⟨Nat.le_of_ble_eq_true rfl, Nat.le_of_ble_eq_true rfl⟩) ⟨fun a U g mk q => by obtain ⟨q0, q1, qP, qK, qD, qN⟩ := q; exact ⟨q0, q1, qP, va_K.moved (u := U) (U := U.calling g mk a) (Vm.Alike.refl U.vm) qK, qD, qN.same rfl⟩, va_recv hK hP (ci := 9) (q0 := 0) rfl rfl, fun U hU hW => ⟨rfl, by rw [hU], by rw [hU]; exact hPc, va_K.moved hW.alike hKc, hDc.weaken (fun _ _ _ _ => trivial), hN.warm hW⟩⟩ rfl rfl hl.1 rfl (lv_room (Nat.le_of_ble_eq_true rfl)) px_d19_140 ⟨(Nat.le_of_ble_eq_true rfl), (Nat.le_of_ble_eq_true rfl)⟩) hS (fun q _ h => hFc q h) hFc (fun u t H1 locs ht hvm hw hB hz1 hk1 hS => ?_)
    obtain ⟨v1, v2, v3⟩ := u
    obtain ⟨hP1, hK1, hD1⟩ := hB
    rw [ht] at hP1
    have hK1 := va_K.moved hvm.symm hK1
    obtain ⟨hP, hD⟩ := va_join (wr := [(h1, .inr (9, [.ref q1, .int n1, .int m1])), (q1, .inl (c1, 160, .inl f1)), (h2, .inr (9, [.ref q2, .int n2, .int m2])), (q2, .inl (c2, 160, .inl f2)), (h3, .inr (9, [.ref q3, .int n3, .int m3])), (q3, .inl (c3, 160, .inl f3))]) (w1 := [(h0, .inr (9, [.ref q0, .int v1, .int v2])), (q0, .inl (c0, 160, .inl v3))]) hP hD [0, 1] [2, 3, 4, 5, 6, 7] rfl rfl (by decide) (by decide) hk1 hFc hP1 hD1
    generalize H1 = H at hP hS ⊢
    have hP : va_P (dC, dI) vwCl [(h1, .inr (9, [.ref q1, .int n1, .int m1])), (q1, .inl (c1, 160, .inl f1)), (h2, .inr (9, [.ref q2, .int n2, .int m2])), (q2, .inl (c2, 160, .inl f2)), (h3, .inr (9, [.ref q3, .int n3, .int m3])), (q3, .inl (c3, 160, .inl f3)), (h0, .inr (9, [.ref q0, .int v1, .int v2])), (q0, .inl (c0, 160, .inl v3))] H := hP
    have hD : va_D A [(h1, .inr (9, [.ref q1, .int n1, .int m1])), (q1, .inl (c1, 160, .inl f1)), (h2, .inr (9, [.ref q2, .int n2, .int m2])), (q2, .inl (c2, 160, .inl f2)), (h3, .inr (9, [.ref q3, .int n3, .int m3])), (q3, .inl (c3, 160, .inl f3)), (h0, .inr (9, [.ref q0, .int v1, .int v2])), (q0, .inl (c0, 160, .inl v3))] := hD
    have hP := hP.sub (ws' := [(h0, .inr (9, [.ref q0, .int v1, .int v2])), (q0, .inl (c0, 160, .inl v3)), (h1, .inr (9, [.ref q1, .int n1, .int m1])), (q1, .inl (c1, 160, .inl f1)), (h2, .inr (9, [.ref q2, .int n2, .int m2])), (q2, .inl (c2, 160, .inl f2)), (h3, .inr (9, [.ref q3, .int n3, .int m3])), (q3, .inl (c3, 160, .inl f3))]) [6, 7, 0, 1, 2, 3, 4, 5] rfl
    have hD := hD.sub (ws' := [(h0, .inr (9, [.ref q0, .int v1, .int v2])), (q0, .inl (c0, 160, .inl v3)), (h1, .inr (9, [.ref q1, .int n1, .int m1])), (q1, .inl (c1, 160, .inl f1)), (h2, .inr (9, [.ref q2, .int n2, .int m2])), (q2, .inl (c2, 160, .inl f2)), (h3, .inr (9, [.ref q3, .int n3, .int m3])), (q3, .inl (c3, 160, .inl f3))]) [6, 7, 0, 1, 2, 3, 4, 5] (by decide) rfl
    rw [← hQ]
    exact W.vret hx hb hr (fun t ht hW => ⟨⟨(v1, v2, v3, n1, m1, f1, n2, m2, f2, n3, m3, f3), rfl, hw, by rw [ht]; exact hP, va_K.moved hW.alike hK, hD⟩, hS.F ht⟩) hS.2.2 px_d19_143
  have S12 : ∀ (k12 : Nat) (x4 : Int32) (n0 : Int32) (m0 : Int32) (f0 : Nat → Int32) (n1 : Int32) (m1 : Int32) (f1 : Nat → Int32) (n2 : Int32) (m2 : Int32) (f2 : Nat → Int32) (n3 : Int32) (m3 : Int32) (f3 : Nat → Int32) (H : Heap) (locs : List Loc) (ls : Array Slot), va_P (dC, dI) vwCl [(h0, .inr (9, [.ref q0, .int n0, .int m0])), (q0, .inl (c0, 160, .inl f0)), (h1, .inr (9, [.ref q1, .int n1, .int m1])), (q1, .inl (c1, 160, .inl f1)), (h2, .inr (9, [.ref q2, .int n2, .int m2])), (q2, .inl (c2, 160, .inl f2)), (h3, .inr (9, [.ref q3, .int n3, .int m3])), (q3, .inl (c3, 160, .inl f3))] H → va_D A [(h0, .inr (9, [.ref q0, .int n0, .int m0])), (q0, .inl (c0, 160, .inl f0)), (h1, .inr (9, [.ref q1, .int n1, .int m1])), (q1, .inl (c1, 160, .inl f1)), (h2, .inr (9, [.ref q2, .int n2, .int m2])), (q2, .inl (c2, 160, .inl f2)), (h3, .inr (9, [.ref q3, .int n3, .int m3])), (q3, .inl (c3, 160, .inl f3))] → va_S A s.heap H locs → lv_has ls 6 [(0, .ref h0), (1, .ref h1), (2, .ref h2), (3, .ref h3), (4, .int x4)] → nqu_L12 post k12 x4 n0 m0 f0 n1 m1 f1 n2 m2 f2 n3 m3 f3 → W p l e (headSpec px_s19 ({ frames := 2, cells := 0, slots := 0, locals := 55 })).room s m ([.ref h0, .ref h1, .ref h2, .ref h3]).toArray below meth c H locs 0 0 Q (F0 m 12 ls []) := by
    intro k12
    induction k12 with
    | zero => intro x4 n0 m0 f0 n1 m1 f1 n2 m2 f2 n3 m3 f3 H locs ls hP hD hS hl hw; exact False.elim hw
    | succ k12 ih12 =>
      have S105 : ∀ (x4 : Int32) (x5 : Int32) (n0 : Int32) (m0 : Int32) (f0 : Nat → Int32) (n1 : Int32) (m1 : Int32) (f1 : Nat → Int32) (n2 : Int32) (m2 : Int32) (f2 : Nat → Int32) (n3 : Int32) (m3 : Int32) (f3 : Nat → Int32) (H : Heap) (locs : List Loc) (ls : Array Slot), va_P (dC, dI) vwCl [(h0, .inr (9, [.ref q0, .int n0, .int m0])), (q0, .inl (c0, 160, .inl f0)), (h1, .inr (9, [.ref q1, .int n1, .int m1])), (q1, .inl (c1, 160, .inl f1)), (h2, .inr (9, [.ref q2, .int n2, .int m2])), (q2, .inl (c2, 160, .inl f2)), (h3, .inr (9, [.ref q3, .int n3, .int m3])), (q3, .inl (c3, 160, .inl f3))] H → va_D A [(h0, .inr (9, [.ref q0, .int n0, .int m0])), (q0, .inl (c0, 160, .inl f0)), (h1, .inr (9, [.ref q1, .int n1, .int m1])), (q1, .inl (c1, 160, .inl f1)), (h2, .inr (9, [.ref q2, .int n2, .int m2])), (q2, .inl (c2, 160, .inl f2)), (h3, .inr (9, [.ref q3, .int n3, .int m3])), (q3, .inl (c3, 160, .inl f3))] → va_S A s.heap H locs → lv_has ls 6 [(0, .ref h0), (1, .ref h1), (2, .ref h2), (3, .ref h3), (4, .int x4), (5, .int x5)] → nqu_L105 (nqu_L12 post k12) post x4 x5 n0 m0 f0 n1 m1 f1 n2 m2 f2 n3 m3 f3 → W p l e (headSpec px_s19 ({ frames := 2, cells := 0, slots := 0, locals := 55 })).room s m ([.ref h0, .ref h1, .ref h2, .ref h3]).toArray below meth c H locs 0 0 Q (F0 m 105 ls []) := by
        intro x4 x5 n0 m0 f0 n1 m1 f1 n2 m2 f2 n3 m3 f3 H locs ls hP hD hS hl hw
        unfold nqu_L105 at hw
        obtain ⟨z4, ez4⟩ : ∃ y : Int32, y = x4 + (-1) := ⟨_, rfl⟩
        have hw := hw z4 ez4
        refine lv_iinc (v := z4) (lv' := [(4, .int z4), (0, .ref h0), (1, .ref h1), (2, .ref h2), (3, .ref h3), (5, .int x5)]) hx hb px_d19_105 hl (k := 4) rfl (by rw [ez4]; rfl) (by decide) rfl (fun ls hl => ?_)
        refine lv_goto (tgt := 12) hx hb px_d19_108 (by decide) ?_
        exact ih12 z4 n0 m0 f0 n1 m1 f1 n2 m2 f2 n3 m3 f3 H locs ls hP hD hS (lv_sub hl [1, 2, 3, 4, 0] rfl) hw
      have S23 : ∀ (k23 : Nat) (x4 : Int32) (x5 : Int32) (n0 : Int32) (m0 : Int32) (f0 : Nat → Int32) (n1 : Int32) (m1 : Int32) (f1 : Nat → Int32) (n2 : Int32) (m2 : Int32) (f2 : Nat → Int32) (n3 : Int32) (m3 : Int32) (f3 : Nat → Int32) (H : Heap) (locs : List Loc) (ls : Array Slot), va_P (dC, dI) vwCl [(h0, .inr (9, [.ref q0, .int n0, .int m0])), (q0, .inl (c0, 160, .inl f0)), (h1, .inr (9, [.ref q1, .int n1, .int m1])), (q1, .inl (c1, 160, .inl f1)), (h2, .inr (9, [.ref q2, .int n2, .int m2])), (q2, .inl (c2, 160, .inl f2)), (h3, .inr (9, [.ref q3, .int n3, .int m3])), (q3, .inl (c3, 160, .inl f3))] H → va_D A [(h0, .inr (9, [.ref q0, .int n0, .int m0])), (q0, .inl (c0, 160, .inl f0)), (h1, .inr (9, [.ref q1, .int n1, .int m1])), (q1, .inl (c1, 160, .inl f1)), (h2, .inr (9, [.ref q2, .int n2, .int m2])), (q2, .inl (c2, 160, .inl f2)), (h3, .inr (9, [.ref q3, .int n3, .int m3])), (q3, .inl (c3, 160, .inl f3))] → va_S A s.heap H locs → lv_has ls 6 [(0, .ref h0), (1, .ref h1), (2, .ref h2), (3, .ref h3), (4, .int x4), (5, .int x5)] → nqu_L23 (nqu_L12 post k12) post k23 x4 x5 n0 m0 f0 n1 m1 f1 n2 m2 f2 n3 m3 f3 → W p l e (headSpec px_s19 ({ frames := 2, cells := 0, slots := 0, locals := 55 })).room s m ([.ref h0, .ref h1, .ref h2, .ref h3]).toArray below meth c H locs 0 0 Q (F0 m 23 ls []) := by
        intro k23
        induction k23 with
        | zero => intro x4 x5 n0 m0 f0 n1 m1 f1 n2 m2 f2 n3 m3 f3 H locs ls hP hD hS hl hw; exact False.elim hw
        | succ k23 ih23 =>
          intro x4 x5 n0 m0 f0 n1 m1 f1 n2 m2 f2 n3 m3 f3 H locs ls hP hD hS hl hw
          unfold nqu_L23 at hw
          refine lv_iload hx hb px_d19_23 (lv_at hl 5 rfl) ?_
          refine lv_if_le (tgt := 50) hx hb px_d19_25 (by decide) (fun c25 => ?_) (fun c25 => ?_)
          · have hw := hw.1 c25
            refine lv_aload_n hx hb px_d19_50 rfl (lv_at hl 3 rfl) ?_
            refine va_get (D := (dC, dI)) (ci := 9) (v := .ref q3) (C := "MatroidDeskModel$Num") (T := px_T9) (N := 3) hx hb htw px_in9 hown hK hP 6 rfl rfl 0 (by decide) (htw _ px_w267) (fun _ h9 => h9) rfl px_d19_51 ?_
            refine lv_iconst (v := 0) hx hb px_d19_54 (by decide) ?_
            refine lv_aload_n hx hb px_d19_55 rfl (lv_at hl 1 rfl) ?_
            refine va_get (D := (dC, dI)) (ci := 9) (v := .ref q1) (C := "MatroidDeskModel$Num") (T := px_T9) (N := 3) hx hb htw px_in9 hown hK hP 2 rfl rfl 0 (by decide) (htw _ px_w267) (fun _ h9 => h9) rfl px_d19_56 ?_
            refine lv_iload hx hb px_d19_59 (lv_at hl 4 rfl) ?_
            obtain ⟨hi61, hw⟩ := hw
            refine va_iald hx hb hK hP 3 1 rfl rfl hi61 px_d19_61 ?_
            refine lv_topi (fun z5 ez5 => ?_)
            have hw := hw z5 ez5
            obtain ⟨hi62, hw⟩ := hw
            refine va_iast hx hb hK hP hD hS 7 3 rfl rfl hi62 px_d19_62 (fun H locs hP hD hS => ?_)
            have hP : va_P (dC, dI) vwCl [(h0, .inr (9, [.ref q0, .int n0, .int m0])), (q0, .inl (c0, 160, .inl f0)), (h1, .inr (9, [.ref q1, .int n1, .int m1])), (q1, .inl (c1, 160, .inl f1)), (h2, .inr (9, [.ref q2, .int n2, .int m2])), (q2, .inl (c2, 160, .inl f2)), (h3, .inr (9, [.ref q3, .int n3, .int m3])), (q3, .inl (c3, 160, .inl (upd f3 (Int32.toNatClampNeg 0) z5)))] H := hP
            have hD : va_D A [(h0, .inr (9, [.ref q0, .int n0, .int m0])), (q0, .inl (c0, 160, .inl f0)), (h1, .inr (9, [.ref q1, .int n1, .int m1])), (q1, .inl (c1, 160, .inl f1)), (h2, .inr (9, [.ref q2, .int n2, .int m2])), (q2, .inl (c2, 160, .inl f2)), (h3, .inr (9, [.ref q3, .int n3, .int m3])), (q3, .inl (c3, 160, .inl (upd f3 (Int32.toNatClampNeg 0) z5)))] := hD
            refine lv_aload_n hx hb px_d19_63 rfl (lv_at hl 3 rfl) ?_
            refine lv_dup hx hb px_d19_64 rfl ?_
            refine va_get (D := (dC, dI)) (ci := 9) (v := .int n3) (C := "MatroidDeskModel$Num") (T := px_T9) (N := 3) hx hb htw px_in9 hown hK hP 6 rfl rfl 1 (by decide) (htw _ px_w271) (fun _ h9 => h9) rfl px_d19_65 ?_
            refine lv_iconst (v := 1) hx hb px_d19_68 (by decide) ?_
            refine lv_iadd hx hb px_d19_69 ?_
            refine lv_topi (fun z6 ez6 => ?_)
            have hw := hw z6 ez6
            refine va_put (D := (dC, dI)) (ci := 9) (v := .int z6) (ty := .int) (C := "MatroidDeskModel$Num") (T := px_T9) (N := 3) hx hb htw px_in9 px_ty9 px_tyok9 px_nm9 hown hK hP hD hS 6 rfl rfl 1 (by decide) (htw _ px_w271) (fun _ h9 => h9) rfl (by decide +kernel) rfl rfl (Nat.le_of_ble_eq_true rfl) px_d19_70 (fun H locs hP hD hS => ?_)
            have hP : va_P (dC, dI) vwCl [(h0, .inr (9, [.ref q0, .int n0, .int m0])), (q0, .inl (c0, 160, .inl f0)), (h1, .inr (9, [.ref q1, .int n1, .int m1])), (q1, .inl (c1, 160, .inl f1)), (h2, .inr (9, [.ref q2, .int n2, .int m2])), (q2, .inl (c2, 160, .inl f2)), (h3, .inr (9, [.ref q3, .int z6, .int m3])), (q3, .inl (c3, 160, .inl (upd f3 (Int32.toNatClampNeg 0) z5)))] H := hP
            have hD : va_D A [(h0, .inr (9, [.ref q0, .int n0, .int m0])), (q0, .inl (c0, 160, .inl f0)), (h1, .inr (9, [.ref q1, .int n1, .int m1])), (q1, .inl (c1, 160, .inl f1)), (h2, .inr (9, [.ref q2, .int n2, .int m2])), (q2, .inl (c2, 160, .inl f2)), (h3, .inr (9, [.ref q3, .int z6, .int m3])), (q3, .inl (c3, 160, .inl (upd f3 (Int32.toNatClampNeg 0) z5)))] := hD
            refine lv_aload_n hx hb px_d19_73 rfl (lv_at hl 3 rfl) ?_
            have hPc := hP.sub (ws' := [(h3, .inr (9, [.ref q3, .int z6, .int m3])), (q3, .inl (c3, 160, .inl (upd f3 (Int32.toNatClampNeg 0) z5)))]) [6, 7] rfl
            have hDc := hD.sub (ws' := [(h3, .inr (9, [.ref q3, .int z6, .int m3])), (q3, .inl (c3, 160, .inl (upd f3 (Int32.toNatClampNeg 0) z5)))]) [6, 7] (by decide) rfl
            have hKc := hK.sub (tys' := [(c3, .int)]) [3] rfl
            have hFc := va_free (wc := [(h3, .inr (9, [.ref q3, .int z6, .int m3])), (q3, .inl (c3, 160, .inl (upd f3 (Int32.toNatClampNeg 0) z5)))]) hD hS hA [6, 7] rfl
            refine va_callv (va_runV (As := []) (rest := []) ⟨hx, hb, hml, hown, htw⟩ (nt_met l dC dI H.size h3 q3 c3 z6 m3 (upd f3 (Int32.toNatClampNeg 0) z5) _ hw) (cwV 0 htw (px_gv px_w300 px_w291 px_w292 px_w149 px_g15) rfl rfl rfl (by decide +kernel) ⟨Nat.le_of_ble_eq_true rfl, Nat.le_of_ble_eq_true rfl⟩) ⟨fun a U g mk q => by obtain ⟨q0, q1, qP, qK, qD, qN⟩ := q; exact ⟨q0, q1, qP, va_K.moved (u := U) (U := U.calling g mk a) (Vm.Alike.refl U.vm) qK, qD, qN.same rfl⟩, va_recv hK hP (ci := 9) (q0 := 6) rfl rfl, fun U hU hW => ⟨rfl, by rw [hU], by rw [hU]; exact hPc, va_K.moved hW.alike hKc, hDc.weaken (fun _ _ _ _ => trivial), hN.warm hW⟩⟩ rfl rfl hl.1 rfl (lv_room (Nat.le_of_ble_eq_true rfl)) px_d19_74 ⟨(Nat.le_of_ble_eq_true rfl), (Nat.le_of_ble_eq_true rfl)⟩) hS (fun q _ h => hFc q h) hFc (fun u t H1 locs ht hvm hw hB hz1 hk1 hS => ?_)
            obtain ⟨v7, v8, v9⟩ := u
            obtain ⟨hP1, hK1, hD1⟩ := hB
            rw [ht] at hP1
            have hK1 := va_K.moved hvm.symm hK1
            obtain ⟨hP, hD⟩ := va_join (wr := [(h0, .inr (9, [.ref q0, .int n0, .int m0])), (q0, .inl (c0, 160, .inl f0)), (h1, .inr (9, [.ref q1, .int n1, .int m1])), (q1, .inl (c1, 160, .inl f1)), (h2, .inr (9, [.ref q2, .int n2, .int m2])), (q2, .inl (c2, 160, .inl f2))]) (w1 := [(h3, .inr (9, [.ref q3, .int v7, .int v8])), (q3, .inl (c3, 160, .inl v9))]) hP hD [6, 7] [0, 1, 2, 3, 4, 5] rfl rfl (by decide) (by decide) hk1 hFc hP1 hD1
            generalize H1 = H at hP hS ⊢
            have hP : va_P (dC, dI) vwCl [(h0, .inr (9, [.ref q0, .int n0, .int m0])), (q0, .inl (c0, 160, .inl f0)), (h1, .inr (9, [.ref q1, .int n1, .int m1])), (q1, .inl (c1, 160, .inl f1)), (h2, .inr (9, [.ref q2, .int n2, .int m2])), (q2, .inl (c2, 160, .inl f2)), (h3, .inr (9, [.ref q3, .int v7, .int v8])), (q3, .inl (c3, 160, .inl v9))] H := hP
            have hD : va_D A [(h0, .inr (9, [.ref q0, .int n0, .int m0])), (q0, .inl (c0, 160, .inl f0)), (h1, .inr (9, [.ref q1, .int n1, .int m1])), (q1, .inl (c1, 160, .inl f1)), (h2, .inr (9, [.ref q2, .int n2, .int m2])), (q2, .inl (c2, 160, .inl f2)), (h3, .inr (9, [.ref q3, .int v7, .int v8])), (q3, .inl (c3, 160, .inl v9))] := hD
            refine lv_aload_n hx hb px_d19_77 rfl (lv_at hl 0 rfl) ?_
            refine va_get (D := (dC, dI)) (ci := 9) (v := .ref q0) (C := "MatroidDeskModel$Num") (T := px_T9) (N := 3) hx hb htw px_in9 hown hK hP 0 rfl rfl 0 (by decide) (htw _ px_w267) (fun _ h9 => h9) rfl px_d19_78 ?_
            refine lv_iload hx hb px_d19_81 (lv_at hl 4 rfl) ?_
            refine lv_iconst (v := 0) hx hb px_d19_83 (by decide) ?_
            obtain ⟨hi84, hw⟩ := hw
            refine va_iast hx hb hK hP hD hS 1 0 rfl rfl hi84 px_d19_84 (fun H locs hP hD hS => ?_)
            have hP : va_P (dC, dI) vwCl [(h0, .inr (9, [.ref q0, .int n0, .int m0])), (q0, .inl (c0, 160, .inl (upd f0 (Int32.toNatClampNeg x4) 0))), (h1, .inr (9, [.ref q1, .int n1, .int m1])), (q1, .inl (c1, 160, .inl f1)), (h2, .inr (9, [.ref q2, .int n2, .int m2])), (q2, .inl (c2, 160, .inl f2)), (h3, .inr (9, [.ref q3, .int v7, .int v8])), (q3, .inl (c3, 160, .inl v9))] H := hP
            have hD : va_D A [(h0, .inr (9, [.ref q0, .int n0, .int m0])), (q0, .inl (c0, 160, .inl (upd f0 (Int32.toNatClampNeg x4) 0))), (h1, .inr (9, [.ref q1, .int n1, .int m1])), (q1, .inl (c1, 160, .inl f1)), (h2, .inr (9, [.ref q2, .int n2, .int m2])), (q2, .inl (c2, 160, .inl f2)), (h3, .inr (9, [.ref q3, .int v7, .int v8])), (q3, .inl (c3, 160, .inl v9))] := hD
            refine lv_aload_n hx hb px_d19_85 rfl (lv_at hl 3 rfl) ?_
            refine lv_aload_n hx hb px_d19_86 rfl (lv_at hl 2 rfl) ?_
            have hPc := hP.sub (ws' := [(h3, .inr (9, [.ref q3, .int v7, .int v8])), (q3, .inl (c3, 160, .inl v9)), (h2, .inr (9, [.ref q2, .int n2, .int m2])), (q2, .inl (c2, 160, .inl f2))]) [6, 7, 4, 5] rfl
            have hDc := hD.sub (ws' := [(h3, .inr (9, [.ref q3, .int v7, .int v8])), (q3, .inl (c3, 160, .inl v9)), (h2, .inr (9, [.ref q2, .int n2, .int m2])), (q2, .inl (c2, 160, .inl f2))]) [6, 7, 4, 5] (by decide) rfl
            have hKc := hK.sub (tys' := [(c3, .int), (c2, .int)]) [3, 2] rfl
            have hFc := va_free (wc := [(h3, .inr (9, [.ref q3, .int v7, .int v8])), (q3, .inl (c3, 160, .inl v9)), (h2, .inr (9, [.ref q2, .int n2, .int m2])), (q2, .inl (c2, 160, .inl f2))]) hD hS hA [6, 7, 4, 5] rfl
            refine va_calli (va_runV (As := [.ref h2]) (rest := []) ⟨hx, hb, hml, hown, htw⟩ (ncs_met l dC dI H.size h3 q3 h2 q2 c3 c2 v7 v8 v9 n2 m2 f2 _ hw) (cwV 1 htw (px_gv px_w301 px_w294 px_w295 px_w149 px_g16) rfl rfl rfl (by decide +kernel) ⟨Nat.le_of_ble_eq_true rfl, Nat.le_of_ble_eq_true rfl⟩) ⟨fun a U g mk q => by obtain ⟨q0, q1, qP, qK, qD, qN⟩ := q; exact ⟨q0, q1, qP, va_K.moved (u := U) (U := U.calling g mk a) (Vm.Alike.refl U.vm) qK, qD, qN.same rfl⟩, va_recv hK hP (ci := 9) (q0 := 6) rfl rfl, fun U hU hW => ⟨rfl, by rw [hU], by rw [hU]; exact hPc, va_K.moved hW.alike hKc, hDc.weaken (fun _ _ _ _ => trivial), hN.warm hW⟩⟩ rfl rfl hl.1 rfl (lv_room (Nat.le_of_ble_eq_true rfl)) px_d19_87 ⟨(Nat.le_of_ble_eq_true rfl), (Nat.le_of_ble_eq_true rfl)⟩) hS (fun q _ h => hFc q h) hFc (fun r87 u t H1 locs ht hvm hw hB hz1 hk1 hS => ?_)
            obtain ⟨v10, v11, v12, v13, v14, v15⟩ := u
            obtain ⟨hP1, hK1, hD1⟩ := hB
            rw [ht] at hP1
            have hK1 := va_K.moved hvm.symm hK1
            obtain ⟨hP, hD⟩ := va_join (wr := [(h0, .inr (9, [.ref q0, .int n0, .int m0])), (q0, .inl (c0, 160, .inl (upd f0 (Int32.toNatClampNeg x4) 0))), (h1, .inr (9, [.ref q1, .int n1, .int m1])), (q1, .inl (c1, 160, .inl f1))]) (w1 := [(h3, .inr (9, [.ref q3, .int v10, .int v11])), (q3, .inl (c3, 160, .inl v12)), (h2, .inr (9, [.ref q2, .int v13, .int v14])), (q2, .inl (c2, 160, .inl v15))]) hP hD [6, 7, 4, 5] [0, 1, 2, 3] rfl rfl (by decide) (by decide) hk1 hFc hP1 hD1
            generalize H1 = H at hP hS ⊢
            have hP : va_P (dC, dI) vwCl [(h0, .inr (9, [.ref q0, .int n0, .int m0])), (q0, .inl (c0, 160, .inl (upd f0 (Int32.toNatClampNeg x4) 0))), (h1, .inr (9, [.ref q1, .int n1, .int m1])), (q1, .inl (c1, 160, .inl f1)), (h3, .inr (9, [.ref q3, .int v10, .int v11])), (q3, .inl (c3, 160, .inl v12)), (h2, .inr (9, [.ref q2, .int v13, .int v14])), (q2, .inl (c2, 160, .inl v15))] H := hP
            have hD : va_D A [(h0, .inr (9, [.ref q0, .int n0, .int m0])), (q0, .inl (c0, 160, .inl (upd f0 (Int32.toNatClampNeg x4) 0))), (h1, .inr (9, [.ref q1, .int n1, .int m1])), (q1, .inl (c1, 160, .inl f1)), (h3, .inr (9, [.ref q3, .int v10, .int v11])), (q3, .inl (c3, 160, .inl v12)), (h2, .inr (9, [.ref q2, .int v13, .int v14])), (q2, .inl (c2, 160, .inl v15))] := hD
            have hP := hP.sub (ws' := [(h0, .inr (9, [.ref q0, .int n0, .int m0])), (q0, .inl (c0, 160, .inl (upd f0 (Int32.toNatClampNeg x4) 0))), (h1, .inr (9, [.ref q1, .int n1, .int m1])), (q1, .inl (c1, 160, .inl f1)), (h2, .inr (9, [.ref q2, .int v13, .int v14])), (q2, .inl (c2, 160, .inl v15)), (h3, .inr (9, [.ref q3, .int v10, .int v11])), (q3, .inl (c3, 160, .inl v12))]) [0, 1, 2, 3, 6, 7, 4, 5] rfl
            have hD := hD.sub (ws' := [(h0, .inr (9, [.ref q0, .int n0, .int m0])), (q0, .inl (c0, 160, .inl (upd f0 (Int32.toNatClampNeg x4) 0))), (h1, .inr (9, [.ref q1, .int n1, .int m1])), (q1, .inl (c1, 160, .inl f1)), (h2, .inr (9, [.ref q2, .int v13, .int v14])), (q2, .inl (c2, 160, .inl v15)), (h3, .inr (9, [.ref q3, .int v10, .int v11])), (q3, .inl (c3, 160, .inl v12))]) [0, 1, 2, 3, 6, 7, 4, 5] (by decide) rfl
            refine lv_if_lt (tgt := 105) hx hb px_d19_90 (by decide) (fun c90 => ?_) (fun c90 => ?_)
            · have hw := hw.1 c90
              exact S105 x4 x5 n0 m0 (upd f0 (Int32.toNatClampNeg x4) 0) n1 m1 f1 v13 v14 v15 v10 v11 v12 H locs ls hP hD hS (lv_sub hl [0, 1, 2, 3, 4, 5] rfl) hw
            · have hw := hw.2 c90
              refine lv_aload_n hx hb px_d19_93 rfl (lv_at hl 0 rfl) ?_
              refine va_get (D := (dC, dI)) (ci := 9) (v := .ref q0) (C := "MatroidDeskModel$Num") (T := px_T9) (N := 3) hx hb htw px_in9 hown hK hP 0 rfl rfl 0 (by decide) (htw _ px_w267) (fun _ h9 => h9) rfl px_d19_94 ?_
              refine lv_iload hx hb px_d19_97 (lv_at hl 4 rfl) ?_
              refine lv_aload_n hx hb px_d19_99 rfl (lv_at hl 3 rfl) ?_
              refine lv_aload_n hx hb px_d19_100 rfl (lv_at hl 2 rfl) ?_
              have hPc := hP.sub (ws' := [(h3, .inr (9, [.ref q3, .int v10, .int v11])), (q3, .inl (c3, 160, .inl v12)), (h2, .inr (9, [.ref q2, .int v13, .int v14])), (q2, .inl (c2, 160, .inl v15))]) [6, 7, 4, 5] rfl
              have hDc := hD.sub (ws' := [(h3, .inr (9, [.ref q3, .int v10, .int v11])), (q3, .inl (c3, 160, .inl v12)), (h2, .inr (9, [.ref q2, .int v13, .int v14])), (q2, .inl (c2, 160, .inl v15))]) [6, 7, 4, 5] (by decide) rfl
              have hKc := hK.sub (tys' := [(c3, .int), (c2, .int)]) [3, 2] rfl
              have hFc := va_free (wc := [(h3, .inr (9, [.ref q3, .int v10, .int v11])), (q3, .inl (c3, 160, .inl v12)), (h2, .inr (9, [.ref q2, .int v13, .int v14])), (q2, .inl (c2, 160, .inl v15))]) hD hS hA [6, 7, 4, 5] rfl
              refine va_calli (va_runS (As := [.ref h3, .ref h2]) (rest := [.int x4, .ref q0]) ⟨hx, hb, hml, hown, htw⟩ (nof_met l dC dI H.size h3 q3 h2 q2 c3 c2 v10 v11 v12 v13 v14 v15 _ hw) (cwS 2 htw (px_gs px_w308 px_w310 px_w149 px_g20) rfl rfl rfl (by decide +kernel) ⟨Nat.le_of_ble_eq_true rfl, Nat.le_of_ble_eq_true rfl⟩) ⟨fun a U g mk q => by obtain ⟨q0, q1, qP, qK, qD, qN⟩ := q; exact ⟨q0, q1, qP, va_K.moved (u := U) (U := U.calling g mk a) (Vm.Alike.refl U.vm) qK, qD, qN.same rfl⟩, fun U hU hW => ⟨rfl, by rw [hU], by rw [hU]; exact hPc, va_K.moved hW.alike hKc, hDc.weaken (fun _ _ _ _ => trivial), hN.warm hW⟩⟩ rfl rfl hl.1 rfl (lv_room (Nat.le_of_ble_eq_true rfl)) px_d19_101 ⟨(Nat.le_of_ble_eq_true rfl), (Nat.le_of_ble_eq_true rfl)⟩) hS (fun q _ h => hFc q h) hFc (fun r101 u t H1 locs ht hvm hw hB hz1 hk1 hS => ?_)
              obtain ⟨v16, v17, v18, v19, v20, v21⟩ := u
              obtain ⟨hP1, hK1, hD1⟩ := hB
              rw [ht] at hP1
              have hK1 := va_K.moved hvm.symm hK1
              obtain ⟨hP, hD⟩ := va_join (wr := [(h0, .inr (9, [.ref q0, .int n0, .int m0])), (q0, .inl (c0, 160, .inl (upd f0 (Int32.toNatClampNeg x4) 0))), (h1, .inr (9, [.ref q1, .int n1, .int m1])), (q1, .inl (c1, 160, .inl f1))]) (w1 := [(h3, .inr (9, [.ref q3, .int v16, .int v17])), (q3, .inl (c3, 160, .inl v18)), (h2, .inr (9, [.ref q2, .int v19, .int v20])), (q2, .inl (c2, 160, .inl v21))]) hP hD [6, 7, 4, 5] [0, 1, 2, 3] rfl rfl (by decide) (by decide) hk1 hFc hP1 hD1
              generalize H1 = H at hP hS ⊢
              have hP : va_P (dC, dI) vwCl [(h0, .inr (9, [.ref q0, .int n0, .int m0])), (q0, .inl (c0, 160, .inl (upd f0 (Int32.toNatClampNeg x4) 0))), (h1, .inr (9, [.ref q1, .int n1, .int m1])), (q1, .inl (c1, 160, .inl f1)), (h3, .inr (9, [.ref q3, .int v16, .int v17])), (q3, .inl (c3, 160, .inl v18)), (h2, .inr (9, [.ref q2, .int v19, .int v20])), (q2, .inl (c2, 160, .inl v21))] H := hP
              have hD : va_D A [(h0, .inr (9, [.ref q0, .int n0, .int m0])), (q0, .inl (c0, 160, .inl (upd f0 (Int32.toNatClampNeg x4) 0))), (h1, .inr (9, [.ref q1, .int n1, .int m1])), (q1, .inl (c1, 160, .inl f1)), (h3, .inr (9, [.ref q3, .int v16, .int v17])), (q3, .inl (c3, 160, .inl v18)), (h2, .inr (9, [.ref q2, .int v19, .int v20])), (q2, .inl (c2, 160, .inl v21))] := hD
              have hP := hP.sub (ws' := [(h0, .inr (9, [.ref q0, .int n0, .int m0])), (q0, .inl (c0, 160, .inl (upd f0 (Int32.toNatClampNeg x4) 0))), (h1, .inr (9, [.ref q1, .int n1, .int m1])), (q1, .inl (c1, 160, .inl f1)), (h2, .inr (9, [.ref q2, .int v19, .int v20])), (q2, .inl (c2, 160, .inl v21)), (h3, .inr (9, [.ref q3, .int v16, .int v17])), (q3, .inl (c3, 160, .inl v18))]) [0, 1, 2, 3, 6, 7, 4, 5] rfl
              have hD := hD.sub (ws' := [(h0, .inr (9, [.ref q0, .int n0, .int m0])), (q0, .inl (c0, 160, .inl (upd f0 (Int32.toNatClampNeg x4) 0))), (h1, .inr (9, [.ref q1, .int n1, .int m1])), (q1, .inl (c1, 160, .inl f1)), (h2, .inr (9, [.ref q2, .int v19, .int v20])), (q2, .inl (c2, 160, .inl v21)), (h3, .inr (9, [.ref q3, .int v16, .int v17])), (q3, .inl (c3, 160, .inl v18))]) [0, 1, 2, 3, 6, 7, 4, 5] (by decide) rfl
              obtain ⟨hi104, hw⟩ := hw
              refine va_iast hx hb hK hP hD hS 1 0 rfl rfl hi104 px_d19_104 (fun H locs hP hD hS => ?_)
              have hP : va_P (dC, dI) vwCl [(h0, .inr (9, [.ref q0, .int n0, .int m0])), (q0, .inl (c0, 160, .inl (upd (upd f0 (Int32.toNatClampNeg x4) 0) (Int32.toNatClampNeg x4) r101))), (h1, .inr (9, [.ref q1, .int n1, .int m1])), (q1, .inl (c1, 160, .inl f1)), (h2, .inr (9, [.ref q2, .int v19, .int v20])), (q2, .inl (c2, 160, .inl v21)), (h3, .inr (9, [.ref q3, .int v16, .int v17])), (q3, .inl (c3, 160, .inl v18))] H := hP
              have hD : va_D A [(h0, .inr (9, [.ref q0, .int n0, .int m0])), (q0, .inl (c0, 160, .inl (upd (upd f0 (Int32.toNatClampNeg x4) 0) (Int32.toNatClampNeg x4) r101))), (h1, .inr (9, [.ref q1, .int n1, .int m1])), (q1, .inl (c1, 160, .inl f1)), (h2, .inr (9, [.ref q2, .int v19, .int v20])), (q2, .inl (c2, 160, .inl v21)), (h3, .inr (9, [.ref q3, .int v16, .int v17])), (q3, .inl (c3, 160, .inl v18))] := hD
              exact S105 x4 x5 n0 m0 (upd (upd f0 (Int32.toNatClampNeg x4) 0) (Int32.toNatClampNeg x4) r101) n1 m1 f1 v19 v20 v21 v16 v17 v18 H locs ls hP hD hS (lv_sub hl [0, 1, 2, 3, 4, 5] rfl) hw
          · have hw := hw.2 c25
            refine lv_aload_n hx hb px_d19_28 rfl (lv_at hl 3 rfl) ?_
            refine va_get (D := (dC, dI)) (ci := 9) (v := .ref q3) (C := "MatroidDeskModel$Num") (T := px_T9) (N := 3) hx hb htw px_in9 hown hK hP 6 rfl rfl 0 (by decide) (htw _ px_w267) (fun _ h9 => h9) rfl px_d19_29 ?_
            refine lv_iload hx hb px_d19_32 (lv_at hl 5 rfl) ?_
            refine lv_aload_n hx hb px_d19_34 rfl (lv_at hl 3 rfl) ?_
            refine va_get (D := (dC, dI)) (ci := 9) (v := .ref q3) (C := "MatroidDeskModel$Num") (T := px_T9) (N := 3) hx hb htw px_in9 hown hK hP 6 rfl rfl 0 (by decide) (htw _ px_w267) (fun _ h9 => h9) rfl px_d19_35 ?_
            refine lv_iload hx hb px_d19_38 (lv_at hl 5 rfl) ?_
            refine lv_iconst (v := 1) hx hb px_d19_40 (by decide) ?_
            refine lv_isub hx hb px_d19_41 ?_
            obtain ⟨hi42, hw⟩ := hw
            refine va_iald hx hb hK hP 7 3 rfl rfl hi42 px_d19_42 ?_
            refine lv_topi (fun z22 ez22 => ?_)
            have hw := hw z22 ez22
            obtain ⟨hi43, hw⟩ := hw
            refine va_iast hx hb hK hP hD hS 7 3 rfl rfl hi43 px_d19_43 (fun H locs hP hD hS => ?_)
            have hP : va_P (dC, dI) vwCl [(h0, .inr (9, [.ref q0, .int n0, .int m0])), (q0, .inl (c0, 160, .inl f0)), (h1, .inr (9, [.ref q1, .int n1, .int m1])), (q1, .inl (c1, 160, .inl f1)), (h2, .inr (9, [.ref q2, .int n2, .int m2])), (q2, .inl (c2, 160, .inl f2)), (h3, .inr (9, [.ref q3, .int n3, .int m3])), (q3, .inl (c3, 160, .inl (upd f3 (Int32.toNatClampNeg x5) z22)))] H := hP
            have hD : va_D A [(h0, .inr (9, [.ref q0, .int n0, .int m0])), (q0, .inl (c0, 160, .inl f0)), (h1, .inr (9, [.ref q1, .int n1, .int m1])), (q1, .inl (c1, 160, .inl f1)), (h2, .inr (9, [.ref q2, .int n2, .int m2])), (q2, .inl (c2, 160, .inl f2)), (h3, .inr (9, [.ref q3, .int n3, .int m3])), (q3, .inl (c3, 160, .inl (upd f3 (Int32.toNatClampNeg x5) z22)))] := hD
            obtain ⟨z23, ez23⟩ : ∃ y : Int32, y = x5 + (-1) := ⟨_, rfl⟩
            have hw := hw z23 ez23
            refine lv_iinc (v := z23) (lv' := [(5, .int z23), (0, .ref h0), (1, .ref h1), (2, .ref h2), (3, .ref h3), (4, .int x4)]) hx hb px_d19_44 hl (k := 5) rfl (by rw [ez23]; rfl) (by decide) rfl (fun ls hl => ?_)
            refine lv_goto (tgt := 23) hx hb px_d19_47 (by decide) ?_
            exact ih23 x4 z23 n0 m0 f0 n1 m1 f1 n2 m2 f2 n3 m3 (upd f3 (Int32.toNatClampNeg x5) z22) H locs ls hP hD hS (lv_sub hl [1, 2, 3, 4, 5, 0] rfl) hw
      intro x4 n0 m0 f0 n1 m1 f1 n2 m2 f2 n3 m3 f3 H locs ls hP hD hS hl hw
      unfold nqu_L12 at hw
      refine lv_iload hx hb px_d19_12 (lv_at hl 4 rfl) ?_
      refine lv_if_lt (tgt := 111) hx hb px_d19_14 (by decide) (fun c14 => ?_) (fun c14 => ?_)
      · have hw := hw.1 c14
        refine lv_aload_n hx hb px_d19_111 rfl (lv_at hl 0 rfl) ?_
        refine lv_aload_n hx hb px_d19_112 rfl (lv_at hl 1 rfl) ?_
        refine va_get (D := (dC, dI)) (ci := 9) (v := .int n1) (C := "MatroidDeskModel$Num") (T := px_T9) (N := 3) hx hb htw px_in9 hown hK hP 2 rfl rfl 1 (by decide) (htw _ px_w271) (fun _ h9 => h9) rfl px_d19_113 ?_
        refine va_put (D := (dC, dI)) (ci := 9) (v := .int n1) (ty := .int) (C := "MatroidDeskModel$Num") (T := px_T9) (N := 3) hx hb htw px_in9 px_ty9 px_tyok9 px_nm9 hown hK hP hD hS 0 rfl rfl 1 (by decide) (htw _ px_w271) (fun _ h9 => h9) rfl (by decide +kernel) rfl rfl (Nat.le_of_ble_eq_true rfl) px_d19_116 (fun H locs hP hD hS => ?_)
        have hP : va_P (dC, dI) vwCl [(h0, .inr (9, [.ref q0, .int n1, .int m0])), (q0, .inl (c0, 160, .inl f0)), (h1, .inr (9, [.ref q1, .int n1, .int m1])), (q1, .inl (c1, 160, .inl f1)), (h2, .inr (9, [.ref q2, .int n2, .int m2])), (q2, .inl (c2, 160, .inl f2)), (h3, .inr (9, [.ref q3, .int n3, .int m3])), (q3, .inl (c3, 160, .inl f3))] H := hP
        have hD : va_D A [(h0, .inr (9, [.ref q0, .int n1, .int m0])), (q0, .inl (c0, 160, .inl f0)), (h1, .inr (9, [.ref q1, .int n1, .int m1])), (q1, .inl (c1, 160, .inl f1)), (h2, .inr (9, [.ref q2, .int n2, .int m2])), (q2, .inl (c2, 160, .inl f2)), (h3, .inr (9, [.ref q3, .int n3, .int m3])), (q3, .inl (c3, 160, .inl f3))] := hD
        refine lv_aload_n hx hb px_d19_119 rfl (lv_at hl 0 rfl) ?_
        refine lv_aload_n hx hb px_d19_120 rfl (lv_at hl 1 rfl) ?_
        refine va_get (D := (dC, dI)) (ci := 9) (v := .int m1) (C := "MatroidDeskModel$Num") (T := px_T9) (N := 3) hx hb htw px_in9 hown hK hP 2 rfl rfl 2 (by decide) (htw _ px_w272) (fun _ h9 => h9) rfl px_d19_121 ?_
        refine lv_aload_n hx hb px_d19_124 rfl (lv_at hl 2 rfl) ?_
        refine va_get (D := (dC, dI)) (ci := 9) (v := .int m2) (C := "MatroidDeskModel$Num") (T := px_T9) (N := 3) hx hb htw px_in9 hown hK hP 4 rfl rfl 2 (by decide) (htw _ px_w272) (fun _ h9 => h9) rfl px_d19_125 ?_
        refine lv_icmp_eq (tgt := 135) hx hb px_d19_128 (by decide) (fun c128 => ?_) (fun c128 => ?_)
        · have hw := hw.1 c128
          refine lv_iconst (v := 0) hx hb px_d19_135 (by decide) ?_
          exact S136 x4 0 n1 m0 f0 n1 m1 f1 n2 m2 f2 n3 m3 f3 H locs ls hP hD hS (lv_sub hl [0, 1, 2, 3, 4] rfl) hw
        · have hw := hw.2 c128
          refine lv_iconst (v := 1) hx hb px_d19_131 (by decide) ?_
          refine lv_goto (tgt := 136) hx hb px_d19_132 (by decide) ?_
          exact S136 x4 1 n1 m0 f0 n1 m1 f1 n2 m2 f2 n3 m3 f3 H locs ls hP hD hS (lv_sub hl [0, 1, 2, 3, 4] rfl) hw
      · have hw := hw.2 c14
        refine lv_aload_n hx hb px_d19_17 rfl (lv_at hl 3 rfl) ?_
        refine va_get (D := (dC, dI)) (ci := 9) (v := .int n3) (C := "MatroidDeskModel$Num") (T := px_T9) (N := 3) hx hb htw px_in9 hown hK hP 6 rfl rfl 1 (by decide) (htw _ px_w271) (fun _ h9 => h9) rfl px_d19_18 ?_
        refine lv_istore (lv' := [(5, .int n3), (0, .ref h0), (1, .ref h1), (2, .ref h2), (3, .ref h3), (4, .int x4)]) hx hb px_d19_21 hl (by decide) rfl (fun ls hl => ?_)
        obtain ⟨k9, hw⟩ := hw
        exact S23 k9 x4 n3 n0 m0 f0 n1 m1 f1 n2 m2 f2 n3 m3 f3 H locs ls hP hD hS (lv_sub hl [1, 2, 3, 4, 5, 0] rfl) hw
  unfold nqu_wp at hw
  have hS0 := hS
  obtain ⟨H, hH9⟩ : ∃ z, z = s.heap := ⟨_, rfl⟩
  have hP : va_P (dC, dI) vwCl [(h0, .inr (9, [.ref q0, .int n0, .int m0])), (q0, .inl (c0, 160, .inl f0)), (h1, .inr (9, [.ref q1, .int n1, .int m1])), (q1, .inl (c1, 160, .inl f1)), (h2, .inr (9, [.ref q2, .int n2, .int m2])), (q2, .inl (c2, 160, .inl f2)), (h3, .inr (9, [.ref q3, .int n3, .int m3])), (q3, .inl (c3, 160, .inl f3))] H := by rw [hH9]; exact hP
  obtain ⟨locs, hlo9⟩ : ∃ z : List Loc, z = [] := ⟨_, rfl⟩
  have hS : va_S A s.heap H locs := by rw [hH9, hlo9]; exact hS
  suffices hG : W p l e (headSpec px_s19 ({ frames := 2, cells := 0, slots := 0, locals := 55 })).room s m ([.ref h0, .ref h1, .ref h2, .ref h3]).toArray below meth c H locs 0 0 Q (F0 m 0 ls []) by rw [hH9, hlo9] at hG; exact hG
  refine lv_aload_n hx hb px_d19_0 rfl (lv_at hl 3 rfl) ?_
  have hPc := hP.sub (ws' := [(h3, .inr (9, [.ref q3, .int n3, .int m3])), (q3, .inl (c3, 160, .inl f3))]) [6, 7] rfl
  have hDc := hD.sub (ws' := [(h3, .inr (9, [.ref q3, .int n3, .int m3])), (q3, .inl (c3, 160, .inl f3))]) [6, 7] (by decide) rfl
  have hKc := hK.sub (tys' := [(c3, .int)]) [3] rfl
  have hFc := va_free (wc := [(h3, .inr (9, [.ref q3, .int n3, .int m3])), (q3, .inl (c3, 160, .inl f3))]) hD hS hA [6, 7] rfl
  refine va_callv (va_runV (As := []) (rest := []) ⟨hx, hb, hml, hown, htw⟩ (nz_met l dC dI H.size h3 q3 c3 n3 m3 f3 _ hw) (cwV 0 htw (px_gv px_w279 px_w269 px_w270 px_w149 px_g9) rfl rfl rfl (by decide +kernel) ⟨Nat.le_of_ble_eq_true rfl, Nat.le_of_ble_eq_true rfl⟩) ⟨fun a U g mk q => by obtain ⟨q0, q1, qP, qK, qD, qN⟩ := q; exact ⟨q0, q1, qP, va_K.moved (u := U) (U := U.calling g mk a) (Vm.Alike.refl U.vm) qK, qD, qN.same rfl⟩, va_recv hK hP (ci := 9) (q0 := 6) rfl rfl, fun U hU hW => ⟨rfl, by rw [hU], by rw [hU]; exact hPc, va_K.moved hW.alike hKc, hDc.weaken (fun _ _ _ _ => trivial), hN.warm hW⟩⟩ rfl rfl hl.1 rfl (lv_room (Nat.le_of_ble_eq_true rfl)) px_d19_1 ⟨(Nat.le_of_ble_eq_true rfl), (Nat.le_of_ble_eq_true rfl)⟩) hS (fun q _ h => hFc q h) hFc (fun u t H1 locs ht hvm hw hB hz1 hk1 hS => ?_)
  obtain ⟨v24, v25, v26⟩ := u
  obtain ⟨hP1, hK1, hD1⟩ := hB
  rw [ht] at hP1
  have hK1 := va_K.moved hvm.symm hK1
  obtain ⟨hP, hD⟩ := va_join (wr := [(h0, .inr (9, [.ref q0, .int n0, .int m0])), (q0, .inl (c0, 160, .inl f0)), (h1, .inr (9, [.ref q1, .int n1, .int m1])), (q1, .inl (c1, 160, .inl f1)), (h2, .inr (9, [.ref q2, .int n2, .int m2])), (q2, .inl (c2, 160, .inl f2))]) (w1 := [(h3, .inr (9, [.ref q3, .int v24, .int v25])), (q3, .inl (c3, 160, .inl v26))]) hP hD [6, 7] [0, 1, 2, 3, 4, 5] rfl rfl (by decide) (by decide) hk1 hFc hP1 hD1
  generalize H1 = H at hP hS ⊢
  have hP : va_P (dC, dI) vwCl [(h0, .inr (9, [.ref q0, .int n0, .int m0])), (q0, .inl (c0, 160, .inl f0)), (h1, .inr (9, [.ref q1, .int n1, .int m1])), (q1, .inl (c1, 160, .inl f1)), (h2, .inr (9, [.ref q2, .int n2, .int m2])), (q2, .inl (c2, 160, .inl f2)), (h3, .inr (9, [.ref q3, .int v24, .int v25])), (q3, .inl (c3, 160, .inl v26))] H := hP
  have hD : va_D A [(h0, .inr (9, [.ref q0, .int n0, .int m0])), (q0, .inl (c0, 160, .inl f0)), (h1, .inr (9, [.ref q1, .int n1, .int m1])), (q1, .inl (c1, 160, .inl f1)), (h2, .inr (9, [.ref q2, .int n2, .int m2])), (q2, .inl (c2, 160, .inl f2)), (h3, .inr (9, [.ref q3, .int v24, .int v25])), (q3, .inl (c3, 160, .inl v26))] := hD
  refine lv_aload_n hx hb px_d19_4 rfl (lv_at hl 1 rfl) ?_
  refine va_get (D := (dC, dI)) (ci := 9) (v := .int n1) (C := "MatroidDeskModel$Num") (T := px_T9) (N := 3) hx hb htw px_in9 hown hK hP 2 rfl rfl 1 (by decide) (htw _ px_w271) (fun _ h9 => h9) rfl px_d19_5 ?_
  refine lv_iconst (v := 1) hx hb px_d19_8 (by decide) ?_
  refine lv_isub hx hb px_d19_9 ?_
  refine lv_topi (fun z27 ez27 => ?_)
  have hw := hw z27 ez27
  refine lv_istore (lv' := [(4, .int z27), (0, .ref h0), (1, .ref h1), (2, .ref h2), (3, .ref h3)]) hx hb px_d19_10 hl (by decide) rfl (fun ls hl => ?_)
  obtain ⟨k9, hw⟩ := hw
  exact S12 k9 z27 n0 m0 f0 n1 m1 f1 n2 m2 f2 v24 v25 v26 H locs ls hP hD hS (lv_sub hl [1, 2, 3, 4, 0] rfl) hw

