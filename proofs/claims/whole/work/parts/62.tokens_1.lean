/-! MatroidDesk$Tokens.letter()I -/
def w146_L35 (n_s : Nat) (post : Int32 → Int32 → Int32 → Int32 → Int32 → Int32 → (Nat → Int32) → Prop) (t_length : Int32) (t_behind : Int32) (t_start : Int32) (t_kind : Int32) (t_value : Int32) (g_s : Nat → Int32) : Prop := post (-1) t_length t_behind t_start t_kind t_value g_s
def w146_wp (n_s : Nat) (post : Int32 → Int32 → Int32 → Int32 → Int32 → Int32 → (Nat → Int32) → Prop) (t_length : Int32) (t_behind : Int32) (t_start : Int32) (t_kind : Int32) (t_value : Int32) (g_s : Nat → Int32) : Prop := (¬ t_kind = 2 → w146_L35 n_s post t_length t_behind t_start t_kind t_value g_s) ∧ (t_kind = 2 → (¬ (t_behind - t_start) = 1 → w146_L35 n_s post t_length t_behind t_start t_kind t_value g_s) ∧ ((t_behind - t_start) = 1 → vp_in t_start n_s ∧ ((97 ≤ (g_s (Int32.toNatClampNeg t_start)) → vp_in t_start n_s ∧ (post ((g_s (Int32.toNatClampNeg t_start)) - 97) t_length t_behind t_start t_kind t_value g_s)) ∧ (¬ 97 ≤ (g_s (Int32.toNatClampNeg t_start)) → w146_L35 n_s post t_length t_behind t_start t_kind t_value g_s))))
set_option maxHeartbeats 8000000 in
set_option maxRecDepth 100000 in
theorem w146_met (l : Launch) (dC : Nat → ClassId) (dI : Nat → Nat → Nat) (sz : Nat) (h0 : Nat) (q0 : Nat) (n_s : Nat) (c_s : ClassId) (t_length : Int32) (t_behind : Int32) (t_start : Int32) (t_kind : Int32) (t_value : Int32) (g_s : Nat → Int32) (post : Int32 → Int32 → Int32 → Int32 → Int32 → Int32 → (Nat → Int32) → Prop) (hw : w146_wp n_s post t_length t_behind t_start t_kind t_value g_s) : Met l px_y146 px_s146 ({ frames := 0, cells := 0, slots := 0, locals := 0 }) (va_Pc [.ref h0] (fun U => U.heap.size = sz ∧ va_P (dC, dI) vwCl [(h0, .inr (5, [.ref q0, .int t_length, .int t_behind, .int t_start, .int t_kind, .int t_value])), (q0, .inl (c_s, n_s, .inl g_s))] U.heap ∧ va_K (dC, dI) vwCl [(c_s, .byte)] U ∧ va_D (fun _ => True) [(h0, .inr (5, [.ref q0, .int t_length, .int t_behind, .int t_start, .int t_kind, .int t_value])), (q0, .inl (c_s, n_s, .inl g_s))] ∧ px_N U)) (va_Qi (fun (r : Int32) (u : Int32 × Int32 × Int32 × Int32 × Int32 × (Nat → Int32)) => post r u.1 u.2.1 u.2.2.1 u.2.2.2.1 u.2.2.2.2.1 u.2.2.2.2.2) (fun (u : Int32 × Int32 × Int32 × Int32 × Int32 × (Nat → Int32)) (t : State) => va_P (dC, dI) vwCl [(h0, .inr (5, [.ref q0, .int u.1, .int u.2.1, .int u.2.2.1, .int u.2.2.2.1, .int u.2.2.2.2.1])), (q0, .inl (c_s, n_s, .inl u.2.2.2.2.2))] t.heap ∧ va_K (dC, dI) vwCl [(c_s, .byte)] t ∧ va_D (va_A [(h0, .inr (5, [.ref q0, .int t_length, .int t_behind, .int t_start, .int t_kind, .int t_value])), (q0, .inl (c_s, n_s, .inl g_s))] sz) [(h0, .inr (5, [.ref q0, .int u.1, .int u.2.1, .int u.2.2.1, .int u.2.2.2.1, .int u.2.2.2.2.1])), (q0, .inl (c_s, n_s, .inl u.2.2.2.2.2))]) (va_A [(h0, .inr (5, [.ref q0, .int t_length, .int t_behind, .int t_start, .int t_kind, .int t_value])), (q0, .inl (c_s, n_s, .inl g_s))] sz)) 0 0 (va_A [(h0, .inr (5, [.ref q0, .int t_length, .int t_behind, .int t_start, .int t_kind, .int t_value])), (q0, .inl (c_s, n_s, .inl g_s))] sz) := by
  refine Met.ofW (cc := prog_10_method_5_code) (maxL := 1) (ret := (some .int)) (by decide) rfl ?_
  intro p e s m args below meth c s₁ B hml hv
  obtain ⟨rfl, hsz, hP, hK, hD0, hN⟩ := hv
  have hx := B.exec
  have hb := B.bytes
  have hr := B.returns
  have htw : ∀ w ∈ px_all, w.before _ s = true := fun w h => atoms_spec (ws := px_s146) B.pre w (List.mem_cons_of_mem _ h)
  have hown : s.vm.findClass "MatroidDesk$Tokens" = some m.cls := findClass_of_methodNamed B.named
  have hlocks := B.notSynchronized
  subst hsz
  have hD := hD0.self (sz := s.heap.size)
  generalize hAe : va_A [(h0, .inr (5, [.ref q0, .int t_length, .int t_behind, .int t_start, .int t_kind, .int t_value])), (q0, .inl (c_s, n_s, .inl g_s))] s.heap.size = A at hD ⊢
  have hA : ∀ q : Nat, s.heap.size ≤ q → A q := fun q h => by rw [← hAe]; exact Or.inr h
  have hS : va_S A s.heap s.heap [] := va_S.rf
  have hP : va_P (dC, dI) vwCl [(h0, .inr (5, [.ref q0, .int t_length, .int t_behind, .int t_start, .int t_kind, .int t_value])), (q0, .inl (c_s, n_s, .inl g_s))] s.heap := hP
  have hl := lv_entry ([.ref h0]) (n := 1) (Nat.le_of_ble_eq_true rfl)
  rw [lg_entry_eq]
  generalize (lg_sl ([.ref h0]) ++ List.replicate (1 - (lg_sl ([.ref h0])).length) Slot.unset).toArray = ls at hl ⊢
  have hl : lv_has ls 1 [(0, .ref h0)] := hl
  generalize hQ : MQ _ _ _ _ _ _ _ = Q
  have S35 : ∀ (t_length : Int32) (t_behind : Int32) (t_start : Int32) (t_kind : Int32) (t_value : Int32) (g_s : Nat → Int32) (H : Heap) (locs : List Loc) (ls : Array Slot), va_P (dC, dI) vwCl [(h0, .inr (5, [.ref q0, .int t_length, .int t_behind, .int t_start, .int t_kind, .int t_value])), (q0, .inl (c_s, n_s, .inl g_s))] H → va_D A [(h0, .inr (5, [.ref q0, .int t_length, .int t_behind, .int t_start, .int t_kind, .int t_value])), (q0, .inl (c_s, n_s, .inl g_s))] → va_S A s.heap H locs → lv_has ls 1 [(0, .ref h0)] → w146_L35 n_s post t_length t_behind t_start t_kind t_value g_s → W p l e (headSpec px_s146 ({ frames := 0, cells := 0, slots := 0, locals := 0 })).room s m ([.ref h0]).toArray below meth c H locs 0 0 Q (F0 m 35 ls []) := by
    intro t_length t_behind t_start t_kind t_value g_s H locs ls hP hD hS hl hw
    unfold w146_L35 at hw
    refine lv_iconst (v := (-1)) hx hb px_d146_35 (by decide) ?_
    rw [← hQ]
    exact W.iret (v := (-1)) hx hb hr (fun t ht hW => ⟨⟨(-1), (t_length, t_behind, t_start, t_kind, t_value, g_s), rfl, hw, by rw [ht]; exact hP, va_K.moved hW.alike hK, hD⟩, hS.F ht⟩) hS.2.2 px_d146_36
  unfold w146_wp at hw
  have hS0 := hS
  obtain ⟨H, hH9⟩ : ∃ z, z = s.heap := ⟨_, rfl⟩
  have hP : va_P (dC, dI) vwCl [(h0, .inr (5, [.ref q0, .int t_length, .int t_behind, .int t_start, .int t_kind, .int t_value])), (q0, .inl (c_s, n_s, .inl g_s))] H := by rw [hH9]; exact hP
  obtain ⟨locs, hlo9⟩ : ∃ z : List Loc, z = [] := ⟨_, rfl⟩
  have hS : va_S A s.heap H locs := by rw [hH9, hlo9]; exact hS
  suffices hG : W p l e (headSpec px_s146 ({ frames := 0, cells := 0, slots := 0, locals := 0 })).room s m ([.ref h0]).toArray below meth c H locs 0 0 Q (F0 m 0 ls []) by rw [hH9, hlo9] at hG; exact hG
  refine lv_aload_n hx hb px_d146_0 rfl (lv_at hl 0 rfl) ?_
  refine va_get (D := (dC, dI)) (ci := 5) (v := .int t_kind) (C := "MatroidDesk$Tokens") (T := px_T5) (N := 6) hx hb htw px_in5 hown hK hP 0 rfl rfl 4 (by decide) (htw _ px_w834) (fun _ h9 => h9) rfl px_d146_1 ?_
  refine lv_iconst (v := 2) hx hb px_d146_4 (by decide) ?_
  refine lv_icmp_ne (tgt := 35) hx hb px_d146_5 (by decide) (fun c5 => ?_) (fun c5 => ?_)
  · have hw := hw.1 c5
    exact S35 t_length t_behind t_start t_kind t_value g_s H locs ls hP hD hS (lv_sub hl [0] rfl) hw
  · have hw := hw.2 c5
    refine lv_aload_n hx hb px_d146_8 rfl (lv_at hl 0 rfl) ?_
    refine va_get (D := (dC, dI)) (ci := 5) (v := .int t_behind) (C := "MatroidDesk$Tokens") (T := px_T5) (N := 6) hx hb htw px_in5 hown hK hP 0 rfl rfl 2 (by decide) (htw _ px_w827) (fun _ h9 => h9) rfl px_d146_9 ?_
    refine lv_aload_n hx hb px_d146_12 rfl (lv_at hl 0 rfl) ?_
    refine va_get (D := (dC, dI)) (ci := 5) (v := .int t_start) (C := "MatroidDesk$Tokens") (T := px_T5) (N := 6) hx hb htw px_in5 hown hK hP 0 rfl rfl 3 (by decide) (htw _ px_w833) (fun _ h9 => h9) rfl px_d146_13 ?_
    refine lv_isub hx hb px_d146_16 ?_
    refine lv_iconst (v := 1) hx hb px_d146_17 (by decide) ?_
    refine lv_icmp_ne (tgt := 35) hx hb px_d146_18 (by decide) (fun c18 => ?_) (fun c18 => ?_)
    · have hw := hw.1 c18
      exact S35 t_length t_behind t_start t_kind t_value g_s H locs ls hP hD hS (lv_sub hl [0] rfl) hw
    · have hw := hw.2 c18
      refine lv_aload_n hx hb px_d146_21 rfl (lv_at hl 0 rfl) ?_
      refine va_get (D := (dC, dI)) (ci := 5) (v := .ref q0) (C := "MatroidDesk$Tokens") (T := px_T5) (N := 6) hx hb htw px_in5 hown hK hP 0 rfl rfl 0 (by decide) (htw _ px_w186) (fun _ h9 => h9) rfl px_d146_22 ?_
      refine lv_aload_n hx hb px_d146_25 rfl (lv_at hl 0 rfl) ?_
      refine va_get (D := (dC, dI)) (ci := 5) (v := .int t_start) (C := "MatroidDesk$Tokens") (T := px_T5) (N := 6) hx hb htw px_in5 hown hK hP 0 rfl rfl 3 (by decide) (htw _ px_w833) (fun _ h9 => h9) rfl px_d146_26 ?_
      obtain ⟨hi29, hw⟩ := hw
      refine va_bald hx hb hK hP 1 0 rfl rfl hi29 px_d146_29 ?_
      refine lv_bipush (v := 97) hx hb px_d146_30 (by decide) ?_
      refine lv_icmp_ge (tgt := 37) hx hb px_d146_32 (by decide) (fun c32 => ?_) (fun c32 => ?_)
      · have hw := hw.1 c32
        refine lv_aload_n hx hb px_d146_37 rfl (lv_at hl 0 rfl) ?_
        refine va_get (D := (dC, dI)) (ci := 5) (v := .ref q0) (C := "MatroidDesk$Tokens") (T := px_T5) (N := 6) hx hb htw px_in5 hown hK hP 0 rfl rfl 0 (by decide) (htw _ px_w186) (fun _ h9 => h9) rfl px_d146_38 ?_
        refine lv_aload_n hx hb px_d146_41 rfl (lv_at hl 0 rfl) ?_
        refine va_get (D := (dC, dI)) (ci := 5) (v := .int t_start) (C := "MatroidDesk$Tokens") (T := px_T5) (N := 6) hx hb htw px_in5 hown hK hP 0 rfl rfl 3 (by decide) (htw _ px_w833) (fun _ h9 => h9) rfl px_d146_42 ?_
        obtain ⟨hi45, hw⟩ := hw
        refine va_bald hx hb hK hP 1 0 rfl rfl hi45 px_d146_45 ?_
        refine lv_bipush (v := 97) hx hb px_d146_46 (by decide) ?_
        refine lv_isub hx hb px_d146_48 ?_
        rw [← hQ]
        exact W.iret (v := (g_s (Int32.toNatClampNeg t_start)) - 97) hx hb hr (fun t ht hW => ⟨⟨(g_s (Int32.toNatClampNeg t_start)) - 97, (t_length, t_behind, t_start, t_kind, t_value, g_s), rfl, hw, by rw [ht]; exact hP, va_K.moved hW.alike hK, hD⟩, hS.F ht⟩) hS.2.2 px_d146_49
      · have hw := hw.2 c32
        exact S35 t_length t_behind t_start t_kind t_value g_s H locs ls hP hD hS (lv_sub hl [0] rfl) hw

/-! MatroidDesk$Tokens.isWord(Ljava/lang/String;)Z -/
def w148_L28 (n_s : Nat) (a1x : Nat) (post : Int32 → Int32 → Int32 → Int32 → Int32 → Int32 → (Nat → Int32) → Prop) : Nat → Int32 → Int32 → Int32 → Int32 → Int32 → Int32 → (Nat → Int32) → Prop
  | 0 => fun _ _ _ _ _ _ _ => False
  | k + 1 => fun x2 t_length t_behind t_start t_kind t_value g_s => a1x < px_qn ∧ (w149_wp a1x (fun r30  => (r30 ≤ x2 → narrow .boolean (.int 1) = .int 1 ∧ post 1 t_length t_behind t_start t_kind t_value g_s) ∧ (¬ r30 ≤ x2 → vp_in (t_start + x2) n_s ∧ (a1x < px_qn ∧ (w151_wp a1x (fun r49  => ((g_s (Int32.toNatClampNeg (t_start + x2))) = r49 → ∀ z3 : Int32, z3 = x2 + 1 → (w148_L28 n_s a1x post k) z3 t_length t_behind t_start t_kind t_value g_s) ∧ (¬ (g_s (Int32.toNatClampNeg (t_start + x2))) = r49 → narrow .boolean (.int 0) = .int 0 ∧ post 0 t_length t_behind t_start t_kind t_value g_s)) x2)))) )
def w148_L24 (n_s : Nat) (a1x : Nat) (post : Int32 → Int32 → Int32 → Int32 → Int32 → Int32 → (Nat → Int32) → Prop) (t_length : Int32) (t_behind : Int32) (t_start : Int32) (t_kind : Int32) (t_value : Int32) (g_s : Nat → Int32) : Prop := narrow .boolean (.int 0) = .int 0 ∧ post 0 t_length t_behind t_start t_kind t_value g_s
def w148_wp (n_s : Nat) (a1x : Nat) (post : Int32 → Int32 → Int32 → Int32 → Int32 → Int32 → (Nat → Int32) → Prop) (t_length : Int32) (t_behind : Int32) (t_start : Int32) (t_kind : Int32) (t_value : Int32) (g_s : Nat → Int32) : Prop := (¬ t_kind = 2 → w148_L24 n_s a1x post t_length t_behind t_start t_kind t_value g_s) ∧ (t_kind = 2 → a1x < px_qn ∧ (w149_wp a1x (fun r18  => ((t_behind - t_start) = r18 → ∃ j28, w148_L28 n_s a1x post j28 0 t_length t_behind t_start t_kind t_value g_s) ∧ (¬ (t_behind - t_start) = r18 → w148_L24 n_s a1x post t_length t_behind t_start t_kind t_value g_s)) ))
set_option maxHeartbeats 8000000 in
set_option maxRecDepth 100000 in
theorem w148_met (l : Launch) (dC : Nat → ClassId) (dI : Nat → Nat → Nat) (sz : Nat) (adK : Nat → Nat) (adV : Nat → Nat) (bo : Option Nat) (adB : Nat → Nat) (tA : Nat) (tS : Nat) (h0 : Nat) (q0 : Nat) (n_s : Nat) (c_s : ClassId) (a1x : Nat) (t_length : Int32) (t_behind : Int32) (t_start : Int32) (t_kind : Int32) (t_value : Int32) (g_s : Nat → Int32) (post : Int32 → Int32 → Int32 → Int32 → Int32 → Int32 → (Nat → Int32) → Prop) (hw : w148_wp n_s a1x post t_length t_behind t_start t_kind t_value g_s) : Met l px_y148 px_s148 ({ frames := 4, cells := 0, slots := 0, locals := 85 }) (va_Pc [.ref h0, .ref (adK a1x)] (fun U => U.heap.size = sz ∧ va_P (dC, dI) vwCl [(h0, .inr (5, [.ref q0, .int t_length, .int t_behind, .int t_start, .int t_kind, .int t_value])), (q0, .inl (c_s, n_s, .inl g_s))] U.heap ∧ va_K (dC, dI) vwCl [(c_s, .byte)] U ∧ va_D (fun _ => True) [(h0, .inr (5, [.ref q0, .int t_length, .int t_behind, .int t_start, .int t_kind, .int t_value])), (q0, .inl (c_s, n_s, .inl g_s))] ∧ px_N U ∧ px_E adK adV bo adB tA tS (va_A [(h0, .inr (5, [.ref q0, .int t_length, .int t_behind, .int t_start, .int t_kind, .int t_value])), (q0, .inl (c_s, n_s, .inl g_s))] sz) U U.heap)) (va_Qi (fun (r : Int32) (u : Int32 × Int32 × Int32 × Int32 × Int32 × (Nat → Int32)) => post r u.1 u.2.1 u.2.2.1 u.2.2.2.1 u.2.2.2.2.1 u.2.2.2.2.2) (fun (u : Int32 × Int32 × Int32 × Int32 × Int32 × (Nat → Int32)) (t : State) => va_P (dC, dI) vwCl [(h0, .inr (5, [.ref q0, .int u.1, .int u.2.1, .int u.2.2.1, .int u.2.2.2.1, .int u.2.2.2.2.1])), (q0, .inl (c_s, n_s, .inl u.2.2.2.2.2))] t.heap ∧ va_K (dC, dI) vwCl [(c_s, .byte)] t ∧ va_D (va_A [(h0, .inr (5, [.ref q0, .int t_length, .int t_behind, .int t_start, .int t_kind, .int t_value])), (q0, .inl (c_s, n_s, .inl g_s))] sz) [(h0, .inr (5, [.ref q0, .int u.1, .int u.2.1, .int u.2.2.1, .int u.2.2.2.1, .int u.2.2.2.2.1])), (q0, .inl (c_s, n_s, .inl u.2.2.2.2.2))]) (va_A [(h0, .inr (5, [.ref q0, .int t_length, .int t_behind, .int t_start, .int t_kind, .int t_value])), (q0, .inl (c_s, n_s, .inl g_s))] sz)) 0 0 (va_A [(h0, .inr (5, [.ref q0, .int t_length, .int t_behind, .int t_start, .int t_kind, .int t_value])), (q0, .inl (c_s, n_s, .inl g_s))] sz) := by
  refine Met.ofW (cc := prog_10_method_4_code) (maxL := 3) (ret := (some .boolean)) (by decide) rfl ?_
  intro p e s m args below meth c s₁ B hml hv
  obtain ⟨rfl, hsz, hP, hK, hD0, hN, hE0⟩ := hv
  have hx := B.exec
  have hb := B.bytes
  have hr := B.returns
  have htw : ∀ w ∈ px_all, w.before _ s = true := fun w h => atoms_spec (ws := px_s148) B.pre w (List.mem_cons_of_mem _ h)
  have hown : s.vm.findClass "MatroidDesk$Tokens" = some m.cls := findClass_of_methodNamed B.named
  have hlocks := B.notSynchronized
  subst hsz
  have hD := hD0.self (sz := s.heap.size)
  generalize hAe : va_A [(h0, .inr (5, [.ref q0, .int t_length, .int t_behind, .int t_start, .int t_kind, .int t_value])), (q0, .inl (c_s, n_s, .inl g_s))] s.heap.size = A at hD hE0 ⊢
  have hA : ∀ q : Nat, s.heap.size ≤ q → A q := fun q h => by rw [← hAe]; exact Or.inr h
  have hS : va_S A s.heap s.heap [] := va_S.rf
  have hP : va_P (dC, dI) vwCl [(h0, .inr (5, [.ref q0, .int t_length, .int t_behind, .int t_start, .int t_kind, .int t_value])), (q0, .inl (c_s, n_s, .inl g_s))] s.heap := hP
  have hl := lv_entry ([.ref h0, .ref (adK a1x)]) (n := 3) (Nat.le_of_ble_eq_true rfl)
  rw [lg_entry_eq]
  generalize (lg_sl ([.ref h0, .ref (adK a1x)]) ++ List.replicate (3 - (lg_sl ([.ref h0, .ref (adK a1x)])).length) Slot.unset).toArray = ls at hl ⊢
  have hl : lv_has ls 3 [(0, .ref h0), (1, .ref (adK a1x))] := hl
  generalize hQ : MQ _ _ _ _ _ _ _ = Q
  have S28 : ∀ (k28 : Nat) (x2 : Int32) (t_length : Int32) (t_behind : Int32) (t_start : Int32) (t_kind : Int32) (t_value : Int32) (g_s : Nat → Int32) (H : Heap) (locs : List Loc) (ls : Array Slot), va_P (dC, dI) vwCl [(h0, .inr (5, [.ref q0, .int t_length, .int t_behind, .int t_start, .int t_kind, .int t_value])), (q0, .inl (c_s, n_s, .inl g_s))] H → va_D A [(h0, .inr (5, [.ref q0, .int t_length, .int t_behind, .int t_start, .int t_kind, .int t_value])), (q0, .inl (c_s, n_s, .inl g_s))] → va_S A s.heap H locs → lv_has ls 3 [(0, .ref h0), (1, .ref (adK a1x)), (2, .int x2)] → w148_L28 n_s a1x post k28 x2 t_length t_behind t_start t_kind t_value g_s → W p l e (headSpec px_s148 ({ frames := 4, cells := 0, slots := 0, locals := 85 })).room s m ([.ref h0, .ref (adK a1x)]).toArray below meth c H locs 0 0 Q (F0 m 28 ls []) := by
    intro k28
    induction k28 with
    | zero => intro x2 t_length t_behind t_start t_kind t_value g_s H locs ls hP hD hS hl hw; exact False.elim hw
    | succ k28 ih28 =>
      intro x2 t_length t_behind t_start t_kind t_value g_s H locs ls hP hD hS hl hw
      unfold w148_L28 at hw
      refine lv_iload_n hx hb px_d148_28 rfl (lv_at hl 2 rfl) ?_
      refine lv_aload_n hx hb px_d148_29 rfl (lv_at hl 1 rfl) ?_
      obtain ⟨hp30, hw⟩ := hw
      have hPc := hP.sub (ws' := []) [] rfl
      have hDc := hD.sub (ws' := []) [] (by decide) rfl
      have hFc := va_free (wc := []) hD hS hA [] rfl
      have hKc := hK.sub (tys' := []) [] rfl
      refine va_calli (va_runV (As := []) (rest := [.int x2]) ⟨hx, hb, hml, hown, htw⟩ (w149_met l dC dI H.size adK adV bo adB tA tS a1x _ hw) (cwV 0 htw (px_gv px_w883 px_w886 px_w887 px_w1756 px_g149) rfl rfl rfl (by decide +kernel) ⟨Nat.le_of_ble_eq_true rfl, Nat.le_of_ble_eq_true rfl⟩) ⟨fun a U g mk q => by obtain ⟨q0, q1, qP, qK, qD, qN, qE0⟩ := q; exact ⟨q0, q1, qP, va_K.moved (u := U) (U := U.calling g mk a) (Vm.Alike.refl U.vm) qK, qD, qN.same rfl, qE0.same rfl⟩, vk_recv hE0.1 hp30 hS, fun U hU hW => ⟨rfl, by rw [hU], by rw [hU]; exact hPc, va_K.moved hW.alike hKc, hDc.weaken (fun _ _ _ _ => trivial), hN.warm hW, by rw [hU]; exact hE0.go hS hFc hW⟩⟩ rfl rfl hl.1 rfl (lv_room (Nat.le_of_ble_eq_true rfl)) px_d148_30 ⟨(Nat.le_of_ble_eq_true rfl), (Nat.le_of_ble_eq_true rfl)⟩) hS (fun q _ h => hFc q h) hFc (fun r30 u t H1 locs ht hvm hw hB hz1 hk1 hS => ?_)
      obtain ⟨hP1, hK1, hD1⟩ := hB
      rw [ht] at hP1
      obtain ⟨hP, hD⟩ := va_join (wr := [(h0, .inr (5, [.ref q0, .int t_length, .int t_behind, .int t_start, .int t_kind, .int t_value])), (q0, .inl (c_s, n_s, .inl g_s))]) (w1 := []) hP hD [] [0, 1] rfl rfl (by decide) (by decide) hk1 hFc hP1 hD1
      generalize H1 = H at hP hS ⊢
      have hP : va_P (dC, dI) vwCl [(h0, .inr (5, [.ref q0, .int t_length, .int t_behind, .int t_start, .int t_kind, .int t_value])), (q0, .inl (c_s, n_s, .inl g_s))] H := hP
      have hD : va_D A [(h0, .inr (5, [.ref q0, .int t_length, .int t_behind, .int t_start, .int t_kind, .int t_value])), (q0, .inl (c_s, n_s, .inl g_s))] := hD
      refine lv_icmp_ge (tgt := 63) hx hb px_d148_33 (by decide) (fun c33 => ?_) (fun c33 => ?_)
      · have hw := hw.1 c33
        refine lv_iconst (v := 1) hx hb px_d148_63 (by decide) ?_
        obtain ⟨hz9, hw⟩ := hw
        rw [← hQ]
        exact W.zret (v := 1) hx hb hr hz9 (fun t ht hW => ⟨⟨1, (t_length, t_behind, t_start, t_kind, t_value, g_s), rfl, hw, by rw [ht]; exact hP, va_K.moved hW.alike hK, hD⟩, hS.F ht⟩) hS.2.2 px_d148_64
      · have hw := hw.2 c33
        refine lv_aload_n hx hb px_d148_36 rfl (lv_at hl 0 rfl) ?_
        refine va_get (D := (dC, dI)) (ci := 5) (v := .ref q0) (C := "MatroidDesk$Tokens") (T := px_T5) (N := 6) hx hb htw px_in5 hown hK hP 0 rfl rfl 0 (by decide) (htw _ px_w186) (fun _ h9 => h9) rfl px_d148_37 ?_
        refine lv_aload_n hx hb px_d148_40 rfl (lv_at hl 0 rfl) ?_
        refine va_get (D := (dC, dI)) (ci := 5) (v := .int t_start) (C := "MatroidDesk$Tokens") (T := px_T5) (N := 6) hx hb htw px_in5 hown hK hP 0 rfl rfl 3 (by decide) (htw _ px_w833) (fun _ h9 => h9) rfl px_d148_41 ?_
        refine lv_iload_n hx hb px_d148_44 rfl (lv_at hl 2 rfl) ?_
        refine lv_iadd hx hb px_d148_45 ?_
        obtain ⟨hi46, hw⟩ := hw
        refine va_bald hx hb hK hP 1 0 rfl rfl hi46 px_d148_46 ?_
        refine lv_aload_n hx hb px_d148_47 rfl (lv_at hl 1 rfl) ?_
        refine lv_iload_n hx hb px_d148_48 rfl (lv_at hl 2 rfl) ?_
        obtain ⟨hp49, hw⟩ := hw
        have hPc := hP.sub (ws' := []) [] rfl
        have hDc := hD.sub (ws' := []) [] (by decide) rfl
        have hFc := va_free (wc := []) hD hS hA [] rfl
        have hKc := hK.sub (tys' := []) [] rfl
        refine va_calli (va_runV (As := [.int x2]) (rest := [.int (g_s (Int32.toNatClampNeg (t_start + x2)))]) ⟨hx, hb, hml, hown, htw⟩ (w151_met l dC dI H.size adK adV bo adB tA tS a1x x2 _ hw) (cwV 1 htw (px_gv px_w884 px_w894 px_w895 px_w1756 px_g151) rfl rfl rfl (by decide +kernel) ⟨Nat.le_of_ble_eq_true rfl, Nat.le_of_ble_eq_true rfl⟩) ⟨fun a U g mk q => by obtain ⟨q0, q1, qP, qK, qD, qN, qE0⟩ := q; exact ⟨q0, q1, qP, va_K.moved (u := U) (U := U.calling g mk a) (Vm.Alike.refl U.vm) qK, qD, qN.same rfl, qE0.same rfl⟩, vk_recv hE0.1 hp49 hS, fun U hU hW => ⟨rfl, by rw [hU], by rw [hU]; exact hPc, va_K.moved hW.alike hKc, hDc.weaken (fun _ _ _ _ => trivial), hN.warm hW, by rw [hU]; exact hE0.go hS hFc hW⟩⟩ rfl rfl hl.1 rfl (lv_room (Nat.le_of_ble_eq_true rfl)) px_d148_49 ⟨(Nat.le_of_ble_eq_true rfl), (Nat.le_of_ble_eq_true rfl)⟩) hS (fun q _ h => hFc q h) hFc (fun r49 u t H1 locs ht hvm hw hB hz1 hk1 hS => ?_)
        obtain ⟨hP1, hK1, hD1⟩ := hB
        rw [ht] at hP1
        obtain ⟨hP, hD⟩ := va_join (wr := [(h0, .inr (5, [.ref q0, .int t_length, .int t_behind, .int t_start, .int t_kind, .int t_value])), (q0, .inl (c_s, n_s, .inl g_s))]) (w1 := []) hP hD [] [0, 1] rfl rfl (by decide) (by decide) hk1 hFc hP1 hD1
        generalize H1 = H at hP hS ⊢
        have hP : va_P (dC, dI) vwCl [(h0, .inr (5, [.ref q0, .int t_length, .int t_behind, .int t_start, .int t_kind, .int t_value])), (q0, .inl (c_s, n_s, .inl g_s))] H := hP
        have hD : va_D A [(h0, .inr (5, [.ref q0, .int t_length, .int t_behind, .int t_start, .int t_kind, .int t_value])), (q0, .inl (c_s, n_s, .inl g_s))] := hD
        refine lv_icmp_eq (tgt := 57) hx hb px_d148_52 (by decide) (fun c52 => ?_) (fun c52 => ?_)
        · have hw := hw.1 c52
          obtain ⟨z3, ez3⟩ : ∃ y : Int32, y = x2 + 1 := ⟨_, rfl⟩
          have hw := hw z3 ez3
          refine lv_iinc (v := z3) (lv' := [(2, .int z3), (0, .ref h0), (1, .ref (adK a1x))]) hx hb px_d148_57 hl (k := 2) rfl (by rw [ez3]; rfl) (by decide) rfl (fun ls hl => ?_)
          refine lv_goto (tgt := 28) hx hb px_d148_60 (by decide) ?_
          exact ih28 z3 t_length t_behind t_start t_kind t_value g_s H locs ls hP hD hS (lv_sub hl [1, 2, 0] rfl) hw
        · have hw := hw.2 c52
          refine lv_iconst (v := 0) hx hb px_d148_55 (by decide) ?_
          obtain ⟨hz9, hw⟩ := hw
          rw [← hQ]
          exact W.zret (v := 0) hx hb hr hz9 (fun t ht hW => ⟨⟨0, (t_length, t_behind, t_start, t_kind, t_value, g_s), rfl, hw, by rw [ht]; exact hP, va_K.moved hW.alike hK, hD⟩, hS.F ht⟩) hS.2.2 px_d148_56
  have S24 : ∀ (t_length : Int32) (t_behind : Int32) (t_start : Int32) (t_kind : Int32) (t_value : Int32) (g_s : Nat → Int32) (H : Heap) (locs : List Loc) (ls : Array Slot), va_P (dC, dI) vwCl [(h0, .inr (5, [.ref q0, .int t_length, .int t_behind, .int t_start, .int t_kind, .int t_value])), (q0, .inl (c_s, n_s, .inl g_s))] H → va_D A [(h0, .inr (5, [.ref q0, .int t_length, .int t_behind, .int t_start, .int t_kind, .int t_value])), (q0, .inl (c_s, n_s, .inl g_s))] → va_S A s.heap H locs → lv_has ls 3 [(0, .ref h0), (1, .ref (adK a1x))] → w148_L24 n_s a1x post t_length t_behind t_start t_kind t_value g_s → W p l e (headSpec px_s148 ({ frames := 4, cells := 0, slots := 0, locals := 85 })).room s m ([.ref h0, .ref (adK a1x)]).toArray below meth c H locs 0 0 Q (F0 m 24 ls []) := by
    intro t_length t_behind t_start t_kind t_value g_s H locs ls hP hD hS hl hw
    unfold w148_L24 at hw
    refine lv_iconst (v := 0) hx hb px_d148_24 (by decide) ?_
    obtain ⟨hz9, hw⟩ := hw
    rw [← hQ]
    exact W.zret (v := 0) hx hb hr hz9 (fun t ht hW => ⟨⟨0, (t_length, t_behind, t_start, t_kind, t_value, g_s), rfl, hw, by rw [ht]; exact hP, va_K.moved hW.alike hK, hD⟩, hS.F ht⟩) hS.2.2 px_d148_25
  unfold w148_wp at hw
  have hS0 := hS
  obtain ⟨H, hH9⟩ : ∃ z, z = s.heap := ⟨_, rfl⟩
  have hP : va_P (dC, dI) vwCl [(h0, .inr (5, [.ref q0, .int t_length, .int t_behind, .int t_start, .int t_kind, .int t_value])), (q0, .inl (c_s, n_s, .inl g_s))] H := by rw [hH9]; exact hP
  obtain ⟨locs, hlo9⟩ : ∃ z : List Loc, z = [] := ⟨_, rfl⟩
  have hS : va_S A s.heap H locs := by rw [hH9, hlo9]; exact hS
  suffices hG : W p l e (headSpec px_s148 ({ frames := 4, cells := 0, slots := 0, locals := 85 })).room s m ([.ref h0, .ref (adK a1x)]).toArray below meth c H locs 0 0 Q (F0 m 0 ls []) by rw [hH9, hlo9] at hG; exact hG
  refine lv_aload_n hx hb px_d148_0 rfl (lv_at hl 0 rfl) ?_
  refine va_get (D := (dC, dI)) (ci := 5) (v := .int t_kind) (C := "MatroidDesk$Tokens") (T := px_T5) (N := 6) hx hb htw px_in5 hown hK hP 0 rfl rfl 4 (by decide) (htw _ px_w834) (fun _ h9 => h9) rfl px_d148_1 ?_
  refine lv_iconst (v := 2) hx hb px_d148_4 (by decide) ?_
  refine lv_icmp_ne (tgt := 24) hx hb px_d148_5 (by decide) (fun c5 => ?_) (fun c5 => ?_)
  · have hw := hw.1 c5
    exact S24 t_length t_behind t_start t_kind t_value g_s H locs ls hP hD hS (lv_sub hl [0, 1] rfl) hw
  · have hw := hw.2 c5
    refine lv_aload_n hx hb px_d148_8 rfl (lv_at hl 0 rfl) ?_
    refine va_get (D := (dC, dI)) (ci := 5) (v := .int t_behind) (C := "MatroidDesk$Tokens") (T := px_T5) (N := 6) hx hb htw px_in5 hown hK hP 0 rfl rfl 2 (by decide) (htw _ px_w827) (fun _ h9 => h9) rfl px_d148_9 ?_
    refine lv_aload_n hx hb px_d148_12 rfl (lv_at hl 0 rfl) ?_
    refine va_get (D := (dC, dI)) (ci := 5) (v := .int t_start) (C := "MatroidDesk$Tokens") (T := px_T5) (N := 6) hx hb htw px_in5 hown hK hP 0 rfl rfl 3 (by decide) (htw _ px_w833) (fun _ h9 => h9) rfl px_d148_13 ?_
    refine lv_isub hx hb px_d148_16 ?_
    refine lv_aload_n hx hb px_d148_17 rfl (lv_at hl 1 rfl) ?_
    obtain ⟨hp18, hw⟩ := hw
    have hPc := hP.sub (ws' := []) [] rfl
    have hDc := hD.sub (ws' := []) [] (by decide) rfl
    have hFc := va_free (wc := []) hD hS hA [] rfl
    have hKc := hK.sub (tys' := []) [] rfl
    refine va_calli (va_runV (As := []) (rest := [.int (t_behind - t_start)]) ⟨hx, hb, hml, hown, htw⟩ (w149_met l dC dI H.size adK adV bo adB tA tS a1x _ hw) (cwV 0 htw (px_gv px_w883 px_w886 px_w887 px_w1756 px_g149) rfl rfl rfl (by decide +kernel) ⟨Nat.le_of_ble_eq_true rfl, Nat.le_of_ble_eq_true rfl⟩) ⟨fun a U g mk q => by obtain ⟨q0, q1, qP, qK, qD, qN, qE0⟩ := q; exact ⟨q0, q1, qP, va_K.moved (u := U) (U := U.calling g mk a) (Vm.Alike.refl U.vm) qK, qD, qN.same rfl, qE0.same rfl⟩, vk_recv hE0.1 hp18 hS, fun U hU hW => ⟨rfl, by rw [hU], by rw [hU]; exact hPc, va_K.moved hW.alike hKc, hDc.weaken (fun _ _ _ _ => trivial), hN.warm hW, by rw [hU]; exact hE0.go hS hFc hW⟩⟩ rfl rfl hl.1 rfl (lv_room (Nat.le_of_ble_eq_true rfl)) px_d148_18 ⟨(Nat.le_of_ble_eq_true rfl), (Nat.le_of_ble_eq_true rfl)⟩) hS (fun q _ h => hFc q h) hFc (fun r18 u t H1 locs ht hvm hw hB hz1 hk1 hS => ?_)
    obtain ⟨hP1, hK1, hD1⟩ := hB
    rw [ht] at hP1
    obtain ⟨hP, hD⟩ := va_join (wr := [(h0, .inr (5, [.ref q0, .int t_length, .int t_behind, .int t_start, .int t_kind, .int t_value])), (q0, .inl (c_s, n_s, .inl g_s))]) (w1 := []) hP hD [] [0, 1] rfl rfl (by decide) (by decide) hk1 hFc hP1 hD1
    generalize H1 = H at hP hS ⊢
    have hP : va_P (dC, dI) vwCl [(h0, .inr (5, [.ref q0, .int t_length, .int t_behind, .int t_start, .int t_kind, .int t_value])), (q0, .inl (c_s, n_s, .inl g_s))] H := hP
    have hD : va_D A [(h0, .inr (5, [.ref q0, .int t_length, .int t_behind, .int t_start, .int t_kind, .int t_value])), (q0, .inl (c_s, n_s, .inl g_s))] := hD
    refine lv_icmp_eq (tgt := 26) hx hb px_d148_21 (by decide) (fun c21 => ?_) (fun c21 => ?_)
    · have hw := hw.1 c21
      refine lv_iconst (v := 0) hx hb px_d148_26 (by decide) ?_
      refine lv_istore_n (lv' := [(2, .int 0), (0, .ref h0), (1, .ref (adK a1x))]) hx hb px_d148_27 rfl hl (by decide) rfl (fun ls hl => ?_)
      obtain ⟨k9, hw⟩ := hw
      exact S28 k9 0 t_length t_behind t_start t_kind t_value g_s H locs ls hP hD hS (lv_sub hl [1, 2, 0] rfl) hw
    · have hw := hw.2 c21
      exact S24 t_length t_behind t_start t_kind t_value g_s H locs ls hP hD hS (lv_sub hl [0, 1] rfl) hw

/-! MatroidDesk$Tokens.open([BI)V -/
def w137_wp (n_r1 : Nat) (n_s : Nat) (post : Nat → Int32 → Int32 → Int32 → Int32 → Int32 → (Nat → Int32) → Prop) (a2x : Int32) (q_s : Nat) (t_length : Int32) (t_behind : Int32) (t_start : Int32) (t_kind : Int32) (t_value : Int32) (g_s : Nat → Int32) : Prop := w138_wp n_s (fun v1 v2 v3 v4 v5 v6 => post n_r1 v1 v2 v3 v4 v5 v6) a2x 0 t_start t_kind t_value g_s
set_option maxHeartbeats 8000000 in
set_option maxRecDepth 100000 in
theorem w137_met (l : Launch) (dC : Nat → ClassId) (dI : Nat → Nat → Nat) (sz : Nat) (h0 : Nat) (n_r1 : Nat) (n_s : Nat) (c_s : ClassId) (a2x : Int32) (q_s : Nat) (t_length : Int32) (t_behind : Int32) (t_start : Int32) (t_kind : Int32) (t_value : Int32) (g_s : Nat → Int32) (post : Nat → Int32 → Int32 → Int32 → Int32 → Int32 → (Nat → Int32) → Prop) (hw : w137_wp n_r1 n_s post a2x q_s t_length t_behind t_start t_kind t_value g_s) : Met l px_y137 px_s137 ({ frames := 3, cells := 0, slots := 0, locals := 65 }) (va_Pc [.ref h0, .ref n_r1, .int a2x] (fun U => U.heap.size = sz ∧ va_P (dC, dI) vwCl [(h0, .inr (5, [.ref q_s, .int t_length, .int t_behind, .int t_start, .int t_kind, .int t_value])), (n_r1, .inl (c_s, n_s, .inl g_s))] U.heap ∧ va_K (dC, dI) vwCl [(c_s, .byte)] U ∧ va_D (fun _ => True) [(h0, .inr (5, [.ref q_s, .int t_length, .int t_behind, .int t_start, .int t_kind, .int t_value])), (n_r1, .inl (c_s, n_s, .inl g_s))] ∧ px_N U)) (va_Qv (fun (u : Nat × Int32 × Int32 × Int32 × Int32 × Int32 × (Nat → Int32)) => post u.1 u.2.1 u.2.2.1 u.2.2.2.1 u.2.2.2.2.1 u.2.2.2.2.2.1 u.2.2.2.2.2.2) (fun (u : Nat × Int32 × Int32 × Int32 × Int32 × Int32 × (Nat → Int32)) (t : State) => va_P (dC, dI) vwCl [(h0, .inr (5, [.ref u.1, .int u.2.1, .int u.2.2.1, .int u.2.2.2.1, .int u.2.2.2.2.1, .int u.2.2.2.2.2.1])), (n_r1, .inl (c_s, n_s, .inl u.2.2.2.2.2.2))] t.heap ∧ va_K (dC, dI) vwCl [(c_s, .byte)] t ∧ va_D (va_A [(h0, .inr (5, [.ref q_s, .int t_length, .int t_behind, .int t_start, .int t_kind, .int t_value])), (n_r1, .inl (c_s, n_s, .inl g_s))] sz) [(h0, .inr (5, [.ref u.1, .int u.2.1, .int u.2.2.1, .int u.2.2.2.1, .int u.2.2.2.2.1, .int u.2.2.2.2.2.1])), (n_r1, .inl (c_s, n_s, .inl u.2.2.2.2.2.2))]) (va_A [(h0, .inr (5, [.ref q_s, .int t_length, .int t_behind, .int t_start, .int t_kind, .int t_value])), (n_r1, .inl (c_s, n_s, .inl g_s))] sz)) 0 0 (va_A [(h0, .inr (5, [.ref q_s, .int t_length, .int t_behind, .int t_start, .int t_kind, .int t_value])), (n_r1, .inl (c_s, n_s, .inl g_s))] sz) := by
  refine Met.ofW (cc := prog_10_method_2_code) (maxL := 3) (ret := none) (by decide) rfl ?_
  intro p e s m args below meth c s₁ B hml hv
  obtain ⟨rfl, hsz, hP, hK, hD0, hN⟩ := hv
  have hx := B.exec
  have hb := B.bytes
  have hr := B.returns
  have htw : ∀ w ∈ px_all, w.before _ s = true := fun w h => atoms_spec (ws := px_s137) B.pre w (List.mem_cons_of_mem _ h)
  have hown : s.vm.findClass "MatroidDesk$Tokens" = some m.cls := findClass_of_methodNamed B.named
  have hlocks := B.notSynchronized
  subst hsz
  have hD := hD0.self (sz := s.heap.size)
  generalize hAe : va_A [(h0, .inr (5, [.ref q_s, .int t_length, .int t_behind, .int t_start, .int t_kind, .int t_value])), (n_r1, .inl (c_s, n_s, .inl g_s))] s.heap.size = A at hD ⊢
  have hA : ∀ q : Nat, s.heap.size ≤ q → A q := fun q h => by rw [← hAe]; exact Or.inr h
  have hS : va_S A s.heap s.heap [] := va_S.rf
  have hP : va_P (dC, dI) vwCl [(h0, .inr (5, [.ref q_s, .int t_length, .int t_behind, .int t_start, .int t_kind, .int t_value])), (n_r1, .inl (c_s, n_s, .inl g_s))] s.heap := hP
  have hl := lv_entry ([.ref h0, .ref n_r1, .int a2x]) (n := 3) (Nat.le_of_ble_eq_true rfl)
  rw [lg_entry_eq]
  generalize (lg_sl ([.ref h0, .ref n_r1, .int a2x]) ++ List.replicate (3 - (lg_sl ([.ref h0, .ref n_r1, .int a2x])).length) Slot.unset).toArray = ls at hl ⊢
  have hl : lv_has ls 3 [(0, .ref h0), (1, .ref n_r1), (2, .int a2x)] := hl
  generalize hQ : MQ _ _ _ _ _ _ _ = Q
  unfold w137_wp at hw
  have hS0 := hS
  obtain ⟨H, hH9⟩ : ∃ z, z = s.heap := ⟨_, rfl⟩
  have hP : va_P (dC, dI) vwCl [(h0, .inr (5, [.ref q_s, .int t_length, .int t_behind, .int t_start, .int t_kind, .int t_value])), (n_r1, .inl (c_s, n_s, .inl g_s))] H := by rw [hH9]; exact hP
  obtain ⟨locs, hlo9⟩ : ∃ z : List Loc, z = [] := ⟨_, rfl⟩
  have hS : va_S A s.heap H locs := by rw [hH9, hlo9]; exact hS
  suffices hG : W p l e (headSpec px_s137 ({ frames := 3, cells := 0, slots := 0, locals := 65 })).room s m ([.ref h0, .ref n_r1, .int a2x]).toArray below meth c H locs 0 0 Q (F0 m 0 ls []) by rw [hH9, hlo9] at hG; exact hG
  refine lv_aload_n hx hb px_d137_0 rfl (lv_at hl 0 rfl) ?_
  refine lv_aload_n hx hb px_d137_1 rfl (lv_at hl 1 rfl) ?_
  refine va_put (D := (dC, dI)) (ci := 5) (v := .ref n_r1) (ty := (.array .byte)) (C := "MatroidDesk$Tokens") (T := px_T5) (N := 6) hx hb htw px_in5 px_ty5 px_tyok5 px_nm5 hown hK hP hD hS 0 rfl rfl 0 (by decide) (htw _ px_w186) (fun _ h9 => h9) rfl (by decide +kernel) rfl rfl (Nat.le_of_ble_eq_true rfl) px_d137_2 (fun H locs hP hD hS => ?_)
  have hP : va_P (dC, dI) vwCl [(h0, .inr (5, [.ref n_r1, .int t_length, .int t_behind, .int t_start, .int t_kind, .int t_value])), (n_r1, .inl (c_s, n_s, .inl g_s))] H := hP
  have hD : va_D A [(h0, .inr (5, [.ref n_r1, .int t_length, .int t_behind, .int t_start, .int t_kind, .int t_value])), (n_r1, .inl (c_s, n_s, .inl g_s))] := hD
  refine lv_aload_n hx hb px_d137_5 rfl (lv_at hl 0 rfl) ?_
  refine lv_iload_n hx hb px_d137_6 rfl (lv_at hl 2 rfl) ?_
  refine va_put (D := (dC, dI)) (ci := 5) (v := .int a2x) (ty := .int) (C := "MatroidDesk$Tokens") (T := px_T5) (N := 6) hx hb htw px_in5 px_ty5 px_tyok5 px_nm5 hown hK hP hD hS 0 rfl rfl 1 (by decide) (htw _ px_w826) (fun _ h9 => h9) rfl (by decide +kernel) rfl rfl (Nat.le_of_ble_eq_true rfl) px_d137_7 (fun H locs hP hD hS => ?_)
  have hP : va_P (dC, dI) vwCl [(h0, .inr (5, [.ref n_r1, .int a2x, .int t_behind, .int t_start, .int t_kind, .int t_value])), (n_r1, .inl (c_s, n_s, .inl g_s))] H := hP
  have hD : va_D A [(h0, .inr (5, [.ref n_r1, .int a2x, .int t_behind, .int t_start, .int t_kind, .int t_value])), (n_r1, .inl (c_s, n_s, .inl g_s))] := hD
  refine lv_aload_n hx hb px_d137_10 rfl (lv_at hl 0 rfl) ?_
  refine lv_iconst (v := 0) hx hb px_d137_11 (by decide) ?_
  refine va_put (D := (dC, dI)) (ci := 5) (v := .int 0) (ty := .int) (C := "MatroidDesk$Tokens") (T := px_T5) (N := 6) hx hb htw px_in5 px_ty5 px_tyok5 px_nm5 hown hK hP hD hS 0 rfl rfl 2 (by decide) (htw _ px_w827) (fun _ h9 => h9) rfl (by decide +kernel) rfl rfl (Nat.le_of_ble_eq_true rfl) px_d137_12 (fun H locs hP hD hS => ?_)
  have hP : va_P (dC, dI) vwCl [(h0, .inr (5, [.ref n_r1, .int a2x, .int 0, .int t_start, .int t_kind, .int t_value])), (n_r1, .inl (c_s, n_s, .inl g_s))] H := hP
  have hD : va_D A [(h0, .inr (5, [.ref n_r1, .int a2x, .int 0, .int t_start, .int t_kind, .int t_value])), (n_r1, .inl (c_s, n_s, .inl g_s))] := hD
  refine lv_aload_n hx hb px_d137_15 rfl (lv_at hl 0 rfl) ?_
  have hPc := hP.sub (ws' := [(h0, .inr (5, [.ref n_r1, .int a2x, .int 0, .int t_start, .int t_kind, .int t_value])), (n_r1, .inl (c_s, n_s, .inl g_s))]) [0, 1] rfl
  have hDc := hD.sub (ws' := [(h0, .inr (5, [.ref n_r1, .int a2x, .int 0, .int t_start, .int t_kind, .int t_value])), (n_r1, .inl (c_s, n_s, .inl g_s))]) [0, 1] (by decide) rfl
  have hKc := hK.sub (tys' := [(c_s, .byte)]) [0] rfl
  have hFc := va_free (wc := [(h0, .inr (5, [.ref n_r1, .int a2x, .int 0, .int t_start, .int t_kind, .int t_value])), (n_r1, .inl (c_s, n_s, .inl g_s))]) hD hS hA [0, 1] rfl
  refine va_callv (va_runV (As := []) (rest := []) ⟨hx, hb, hml, hown, htw⟩ (w138_met l dC dI H.size h0 n_r1 n_s c_s a2x 0 t_start t_kind t_value g_s _ hw) (cwV 0 htw (px_gv px_w828 px_w830 px_w831 px_w66 px_g138) rfl rfl rfl (by decide +kernel) ⟨Nat.le_of_ble_eq_true rfl, Nat.le_of_ble_eq_true rfl⟩) ⟨fun a U g mk q => by obtain ⟨q0, q1, qP, qK, qD, qN⟩ := q; exact ⟨q0, q1, qP, va_K.moved (u := U) (U := U.calling g mk a) (Vm.Alike.refl U.vm) qK, qD, qN.same rfl⟩, va_recv hK hP (ci := 5) (q0 := 0) rfl rfl, fun U hU hW => ⟨rfl, by rw [hU], by rw [hU]; exact hPc, va_K.moved hW.alike hKc, hDc.weaken (fun _ _ _ _ => trivial), hN.warm hW⟩⟩ rfl rfl hl.1 rfl (lv_room (Nat.le_of_ble_eq_true rfl)) px_d137_16 ⟨(Nat.le_of_ble_eq_true rfl), (Nat.le_of_ble_eq_true rfl)⟩) hS (fun q _ h => hFc q h) hFc (fun u t H1 locs ht hvm hw hB hz1 hk1 hS => ?_)
  obtain ⟨v1, v2, v3, v4, v5, v6⟩ := u
  obtain ⟨hP1, hK1, hD1⟩ := hB
  rw [ht] at hP1
  have hK1 := va_K.moved hvm.symm hK1
  obtain ⟨hP, hD⟩ := va_join (wr := []) (w1 := [(h0, .inr (5, [.ref n_r1, .int v1, .int v2, .int v3, .int v4, .int v5])), (n_r1, .inl (c_s, n_s, .inl v6))]) hP hD [0, 1] [] rfl rfl (by decide) (by decide) hk1 hFc hP1 hD1
  generalize H1 = H at hP hS ⊢
  have hP : va_P (dC, dI) vwCl [(h0, .inr (5, [.ref n_r1, .int v1, .int v2, .int v3, .int v4, .int v5])), (n_r1, .inl (c_s, n_s, .inl v6))] H := hP
  have hD : va_D A [(h0, .inr (5, [.ref n_r1, .int v1, .int v2, .int v3, .int v4, .int v5])), (n_r1, .inl (c_s, n_s, .inl v6))] := hD
  rw [← hQ]
  exact W.vret hx hb hr (fun t ht hW => ⟨⟨(n_r1, v1, v2, v3, v4, v5, v6), rfl, hw, by rw [ht]; exact hP, va_K.moved hW.alike hK, hD⟩, hS.F ht⟩) hS.2.2 px_d137_19

