/-! java/lang/Enum.ordinal()I -/
def w172_wp (a0x : Nat) (post : Int32 → Prop)  : Prop := a0x < 21 ∧ (post (px_v_ordinal.getD a0x 0) )
set_option maxHeartbeats 8000000 in
set_option maxRecDepth 100000 in
theorem w172_met (l : Launch) (dC : Nat → ClassId) (dI : Nat → Nat → Nat) (sz : Nat) (adK : Nat → Nat) (adV : Nat → Nat) (bo : Option Nat) (adB : Nat → Nat) (tA : Nat) (tS : Nat) (a0x : Nat) (post : Int32 → Prop) (hw : w172_wp a0x post ) : Met l px_y172 px_s172 ({ frames := 0, cells := 0, slots := 0, locals := 0 }) (va_Pc [.ref (adB a0x)] (fun U => U.heap.size = sz ∧ va_P (dC, dI) vwCl [] U.heap ∧ va_K (dC, dI) vwCl [] U ∧ va_D (fun _ => True) [] ∧ px_N U ∧ px_E adK adV bo adB tA tS (va_A [] sz) U U.heap)) (va_Qi (fun (r : Int32) (u : Unit) => post r ) (fun (u : Unit) (t : State) => va_P (dC, dI) vwCl [] t.heap ∧ va_K (dC, dI) vwCl [] t ∧ va_D (va_A [] sz) []) (va_A [] sz)) 0 0 (va_A [] sz) := by
  refine Met.ofW (cc := prog_19_method_2_code) (maxL := 1) (ret := (some .int)) (by decide) rfl ?_
  intro p e s m args below meth c s₁ B hml hv
  obtain ⟨rfl, hsz, hP, hK, hD0, hN, hE0⟩ := hv
  have hx := B.exec
  have hb := B.bytes
  have hr := B.returns
  have htw : ∀ w ∈ px_all, w.before _ s = true := fun w h => atoms_spec (ws := px_s172) B.pre w (List.mem_cons_of_mem _ h)
  have hown : s.vm.findClass "java/lang/Enum" = some m.cls := findClass_of_methodNamed B.named
  have hlocks := B.notSynchronized
  subst hsz
  have hD := hD0.self (sz := s.heap.size)
  generalize hAe : va_A [] s.heap.size = A at hD hE0 ⊢
  have hA : ∀ q : Nat, s.heap.size ≤ q → A q := fun q h => by rw [← hAe]; exact Or.inr h
  have hS : va_S A s.heap s.heap [] := va_S.rf
  have hP : va_P (dC, dI) vwCl [] s.heap := hP
  have hl := lv_entry ([.ref (adB a0x)]) (n := 1) (Nat.le_of_ble_eq_true rfl)
  rw [lg_entry_eq]
  generalize (lg_sl ([.ref (adB a0x)]) ++ List.replicate (1 - (lg_sl ([.ref (adB a0x)])).length) Slot.unset).toArray = ls at hl ⊢
  have hl : lv_has ls 1 [(0, .ref (adB a0x))] := hl
  generalize hQ : MQ _ _ _ _ _ _ _ = Q
  unfold w172_wp at hw
  have hS0 := hS
  obtain ⟨H, hH9⟩ : ∃ z, z = s.heap := ⟨_, rfl⟩
  have hP : va_P (dC, dI) vwCl [] H := by rw [hH9]; exact hP
  obtain ⟨locs, hlo9⟩ : ∃ z : List Loc, z = [] := ⟨_, rfl⟩
  have hS : va_S A s.heap H locs := by rw [hH9, hlo9]; exact hS
  suffices hG : W p l e (headSpec px_s172 ({ frames := 0, cells := 0, slots := 0, locals := 0 })).room s m ([.ref (adB a0x)]).toArray below meth c H locs 0 0 Q (F0 m 0 ls []) by rw [hH9, hlo9] at hG; exact hG
  refine lv_aload_n hx hb px_d172_0 rfl (lv_at hl 0 rfl) ?_
  obtain ⟨hp1, hw⟩ := hw
  refine vk_getf hx hb ((hE0.2.2.2.2.1.1 _ (show _ < px_vn.length from hp1)).2.2 _ px_vm_ordinal) hS hown (htw _ px_w1926) (fun _ h9 => h9) px_d172_1 ?_
  rw [← hQ]
  exact W.iret (v := px_v_ordinal.getD a0x 0) hx hb hr (fun t ht hW => ⟨⟨px_v_ordinal.getD a0x 0, (), rfl, hw, by rw [ht]; exact hP, va_K.moved hW.alike hK, hD⟩, hS.F ht⟩) hS.2.2 px_d172_4

/-! MatroidDesk$Statement.isPrime(I)Z -/
def w161_L16 (post : Int32 → Prop) : Nat → Int32 → Int32 → Prop
  | 0 => fun _ _ => False
  | k + 1 => fun x0 x1 => (x0 < (x1 * x1) → narrow .boolean (.int 1) = .int 1 ∧ post 1 ) ∧ (¬ x0 < (x1 * x1) → ¬ x1 = 0 ∧ ((¬ (x0 - x0 / x1 * x1) = 0 → ∀ z1 : Int32, z1 = x1 + 1 → (w161_L16 post k) x0 z1) ∧ ((x0 - x0 / x1 * x1) = 0 → narrow .boolean (.int 0) = .int 0 ∧ post 0 )))
def w161_L12 (post : Int32 → Prop) (x0 : Int32) : Prop := narrow .boolean (.int 0) = .int 0 ∧ post 0 
def w161_wp (post : Int32 → Prop) (a0x : Int32) : Prop := (a0x < 2 → w161_L12 post a0x) ∧ (¬ a0x < 2 → (a0x ≤ 251 → ∃ j16, w161_L16 post j16 a0x 2) ∧ (¬ a0x ≤ 251 → w161_L12 post a0x))
set_option maxHeartbeats 8000000 in
set_option maxRecDepth 100000 in
theorem w161_met (l : Launch) (dC : Nat → ClassId) (dI : Nat → Nat → Nat) (sz : Nat) (a0x : Int32) (post : Int32 → Prop) (hw : w161_wp post a0x) : Met l px_y161 px_s161 ({ frames := 0, cells := 0, slots := 0, locals := 0 }) (va_Pc [.int a0x] (fun U => U.heap.size = sz ∧ va_P (dC, dI) vwCl [] U.heap ∧ va_K (dC, dI) vwCl [] U ∧ va_D (fun _ => True) [] ∧ px_N U)) (va_Qi (fun (r : Int32) (u : Unit) => post r ) (fun (u : Unit) (t : State) => va_P (dC, dI) vwCl [] t.heap ∧ va_K (dC, dI) vwCl [] t ∧ va_D (va_A [] sz) []) (va_A [] sz)) 0 0 (va_A [] sz) := by
  refine Met.ofW (cc := prog_9_method_16_code) (maxL := 2) (ret := (some .boolean)) (by decide) rfl ?_
  intro p e s m args below meth c s₁ B hml hv
  obtain ⟨rfl, hsz, hP, hK, hD0, hN⟩ := hv
  have hx := B.exec
  have hb := B.bytes
  have hr := B.returns
  have htw : ∀ w ∈ px_all, w.before _ s = true := fun w h => atoms_spec (ws := px_s161) B.pre w (List.mem_cons_of_mem _ h)
  have hown : s.vm.findClass "MatroidDesk$Statement" = some m.cls := findClass_of_methodNamed B.named
  have hlocks := B.notSynchronized
  subst hsz
  have hD := hD0.self (sz := s.heap.size)
  generalize hAe : va_A [] s.heap.size = A at hD ⊢
  have hA : ∀ q : Nat, s.heap.size ≤ q → A q := fun q h => by rw [← hAe]; exact Or.inr h
  have hS : va_S A s.heap s.heap [] := va_S.rf
  have hP : va_P (dC, dI) vwCl [] s.heap := hP
  have hl := lv_entry ([.int a0x]) (n := 2) (Nat.le_of_ble_eq_true rfl)
  rw [lg_entry_eq]
  generalize (lg_sl ([.int a0x]) ++ List.replicate (2 - (lg_sl ([.int a0x])).length) Slot.unset).toArray = ls at hl ⊢
  have hl : lv_has ls 2 [(0, .int a0x)] := hl
  generalize hQ : MQ _ _ _ _ _ _ _ = Q
  have S16 : ∀ (k16 : Nat) (x0 : Int32) (x1 : Int32) (H : Heap) (locs : List Loc) (ls : Array Slot), va_P (dC, dI) vwCl [] H → va_D A [] → va_S A s.heap H locs → lv_has ls 2 [(0, .int x0), (1, .int x1)] → w161_L16 post k16 x0 x1 → W p l e (headSpec px_s161 ({ frames := 0, cells := 0, slots := 0, locals := 0 })).room s m ([.int a0x]).toArray below meth c H locs 0 0 Q (F0 m 16 ls []) := by
    intro k16
    induction k16 with
    | zero => intro x0 x1 H locs ls hP hD hS hl hw; exact False.elim hw
    | succ k16 ih16 =>
      intro x0 x1 H locs ls hP hD hS hl hw
      unfold w161_L16 at hw
      refine lv_iload_n hx hb px_d161_16 rfl (lv_at hl 1 rfl) ?_
      refine lv_iload_n hx hb px_d161_17 rfl (lv_at hl 1 rfl) ?_
      refine lv_imul hx hb px_d161_18 ?_
      refine lv_iload_n hx hb px_d161_19 rfl (lv_at hl 0 rfl) ?_
      refine lv_icmp_gt (tgt := 37) hx hb px_d161_20 (by decide) (fun c20 => ?_) (fun c20 => ?_)
      · have hw := hw.1 c20
        refine lv_iconst (v := 1) hx hb px_d161_37 (by decide) ?_
        obtain ⟨hz9, hw⟩ := hw
        rw [← hQ]
        exact W.zret (v := 1) hx hb hr hz9 (fun t ht hW => ⟨⟨1, (), rfl, hw, by rw [ht]; exact hP, va_K.moved hW.alike hK, hD⟩, hS.F ht⟩) hS.2.2 px_d161_38
      · have hw := hw.2 c20
        refine lv_iload_n hx hb px_d161_23 rfl (lv_at hl 0 rfl) ?_
        refine lv_iload_n hx hb px_d161_24 rfl (lv_at hl 1 rfl) ?_
        obtain ⟨hd25, hw⟩ := hw
        refine lv_irem hx hb px_d161_25 hd25 ?_
        refine lv_if_ne (tgt := 31) hx hb px_d161_26 (by decide) (fun c26 => ?_) (fun c26 => ?_)
        · have hw := hw.1 c26
          obtain ⟨z1, ez1⟩ : ∃ y : Int32, y = x1 + 1 := ⟨_, rfl⟩
          have hw := hw z1 ez1
          refine lv_iinc (v := z1) (lv' := [(1, .int z1), (0, .int x0)]) hx hb px_d161_31 hl (k := 1) rfl (by rw [ez1]; rfl) (by decide) rfl (fun ls hl => ?_)
          refine lv_goto (tgt := 16) hx hb px_d161_34 (by decide) ?_
          exact ih16 x0 z1 H locs ls hP hD hS (lv_sub hl [1, 0] rfl) hw
        · have hw := hw.2 c26
          refine lv_iconst (v := 0) hx hb px_d161_29 (by decide) ?_
          obtain ⟨hz9, hw⟩ := hw
          rw [← hQ]
          exact W.zret (v := 0) hx hb hr hz9 (fun t ht hW => ⟨⟨0, (), rfl, hw, by rw [ht]; exact hP, va_K.moved hW.alike hK, hD⟩, hS.F ht⟩) hS.2.2 px_d161_30
  have S12 : ∀ (x0 : Int32) (H : Heap) (locs : List Loc) (ls : Array Slot), va_P (dC, dI) vwCl [] H → va_D A [] → va_S A s.heap H locs → lv_has ls 2 [(0, .int x0)] → w161_L12 post x0 → W p l e (headSpec px_s161 ({ frames := 0, cells := 0, slots := 0, locals := 0 })).room s m ([.int a0x]).toArray below meth c H locs 0 0 Q (F0 m 12 ls []) := by
    intro x0 H locs ls hP hD hS hl hw
    unfold w161_L12 at hw
    refine lv_iconst (v := 0) hx hb px_d161_12 (by decide) ?_
    obtain ⟨hz9, hw⟩ := hw
    rw [← hQ]
    exact W.zret (v := 0) hx hb hr hz9 (fun t ht hW => ⟨⟨0, (), rfl, hw, by rw [ht]; exact hP, va_K.moved hW.alike hK, hD⟩, hS.F ht⟩) hS.2.2 px_d161_13
  unfold w161_wp at hw
  have hS0 := hS
  obtain ⟨H, hH9⟩ : ∃ z, z = s.heap := ⟨_, rfl⟩
  have hP : va_P (dC, dI) vwCl [] H := by rw [hH9]; exact hP
  obtain ⟨locs, hlo9⟩ : ∃ z : List Loc, z = [] := ⟨_, rfl⟩
  have hS : va_S A s.heap H locs := by rw [hH9, hlo9]; exact hS
  suffices hG : W p l e (headSpec px_s161 ({ frames := 0, cells := 0, slots := 0, locals := 0 })).room s m ([.int a0x]).toArray below meth c H locs 0 0 Q (F0 m 0 ls []) by rw [hH9, hlo9] at hG; exact hG
  refine lv_iload_n hx hb px_d161_0 rfl (lv_at hl 0 rfl) ?_
  refine lv_iconst (v := 2) hx hb px_d161_1 (by decide) ?_
  refine lv_icmp_lt (tgt := 12) hx hb px_d161_2 (by decide) (fun c2 => ?_) (fun c2 => ?_)
  · have hw := hw.1 c2
    exact S12 a0x H locs ls hP hD hS (lv_sub hl [0] rfl) hw
  · have hw := hw.2 c2
    refine lv_iload_n hx hb px_d161_5 rfl (lv_at hl 0 rfl) ?_
    refine lv_sipush (v := 251) hx hb px_d161_6 (by decide) ?_
    refine lv_icmp_le (tgt := 14) hx hb px_d161_9 (by decide) (fun c9 => ?_) (fun c9 => ?_)
    · have hw := hw.1 c9
      refine lv_iconst (v := 2) hx hb px_d161_14 (by decide) ?_
      refine lv_istore_n (lv' := [(1, .int 2), (0, .int a0x)]) hx hb px_d161_15 rfl hl (by decide) rfl (fun ls hl => ?_)
      obtain ⟨k9, hw⟩ := hw
      exact S16 k9 a0x 2 H locs ls hP hD hS (lv_sub hl [1, 0] rfl) hw
    · have hw := hw.2 c9
      exact S12 a0x H locs ls hP hD hS (lv_sub hl [0] rfl) hw

/-! MatroidDesk$Statement.keep()V -/
def w166_L26 (n_s : Nat) (post : Nat → Int32 → Int32 → Int32 → Int32 → Int32 → Int32 → Int32 → Int32 → Int32 → Int32 → Int32 → Int32 → Int32 → Int32 → (Nat → Int32) → (Nat → Int32) → Prop) (s_verb : Nat) (s_target : Int32) (s_first : Int32) (s_second : Int32) (s_field : Int32) (s_head : Int32) (s_next : Int32) (s_many : Int32) (s_rows : Int32) (s_even : Int32) (t_length : Int32) (t_behind : Int32) (t_start : Int32) (t_kind : Int32) (t_value : Int32) (g_n : Nat → Int32) (g_s : Nat → Int32) : Prop := ∀ z1 : Int32, z1 = s_many + 1 → post s_verb s_target s_first s_second s_field s_head s_next z1 s_rows s_even t_length t_behind t_start t_kind t_value g_n g_s
def w166_wp (n_s : Nat) (post : Nat → Int32 → Int32 → Int32 → Int32 → Int32 → Int32 → Int32 → Int32 → Int32 → Int32 → Int32 → Int32 → Int32 → Int32 → (Nat → Int32) → (Nat → Int32) → Prop) (s_verb : Nat) (s_target : Int32) (s_first : Int32) (s_second : Int32) (s_field : Int32) (s_head : Int32) (s_next : Int32) (s_many : Int32) (s_rows : Int32) (s_even : Int32) (t_length : Int32) (t_behind : Int32) (t_start : Int32) (t_kind : Int32) (t_value : Int32) (g_n : Nat → Int32) (g_s : Nat → Int32) : Prop := (160 ≤ s_many → w166_L26 n_s post s_verb s_target s_first s_second s_field s_head s_next s_many s_rows s_even t_length t_behind t_start t_kind t_value g_n g_s) ∧ (¬ 160 ≤ s_many → vp_in s_many 160 ∧ (w166_L26 n_s post s_verb s_target s_first s_second s_field s_head s_next s_many s_rows s_even t_length t_behind t_start t_kind t_value (upd g_n (Int32.toNatClampNeg s_many) t_value) g_s))
set_option maxHeartbeats 8000000 in
set_option maxRecDepth 100000 in
theorem w166_met (l : Launch) (dC : Nat → ClassId) (dI : Nat → Nat → Nat) (sz : Nat) (adB : Nat → Nat) (h_s : Nat) (h_t : Nat) (q_n : Nat) (q0 : Nat) (n_s : Nat) (c_i : ClassId) (c_s : ClassId) (s_verb : Nat) (s_target : Int32) (s_first : Int32) (s_second : Int32) (s_field : Int32) (s_head : Int32) (s_next : Int32) (s_many : Int32) (s_rows : Int32) (s_even : Int32) (t_length : Int32) (t_behind : Int32) (t_start : Int32) (t_kind : Int32) (t_value : Int32) (g_n : Nat → Int32) (g_s : Nat → Int32) (post : Nat → Int32 → Int32 → Int32 → Int32 → Int32 → Int32 → Int32 → Int32 → Int32 → Int32 → Int32 → Int32 → Int32 → Int32 → (Nat → Int32) → (Nat → Int32) → Prop) (hw : w166_wp n_s post s_verb s_target s_first s_second s_field s_head s_next s_many s_rows s_even t_length t_behind t_start t_kind t_value g_n g_s) : Met l px_y166 px_s166 ({ frames := 0, cells := 0, slots := 0, locals := 0 }) (va_Pc [.ref h_s] (fun U => U.heap.size = sz ∧ va_P (dC, dI) vwCl [(h_s, .inr (6, [.ref h_t, .ref q_n, .ref (adB s_verb), .int s_target, .int s_first, .int s_second, .int s_field, .int s_head, .int s_next, .int s_many, .int s_rows, .int s_even])), (h_t, .inr (5, [.ref q0, .int t_length, .int t_behind, .int t_start, .int t_kind, .int t_value])), (q_n, .inl (c_i, 160, .inl g_n)), (q0, .inl (c_s, n_s, .inl g_s))] U.heap ∧ va_K (dC, dI) vwCl [(c_i, .int), (c_s, .byte)] U ∧ va_D (fun _ => True) [(h_s, .inr (6, [.ref h_t, .ref q_n, .ref (adB s_verb), .int s_target, .int s_first, .int s_second, .int s_field, .int s_head, .int s_next, .int s_many, .int s_rows, .int s_even])), (h_t, .inr (5, [.ref q0, .int t_length, .int t_behind, .int t_start, .int t_kind, .int t_value])), (q_n, .inl (c_i, 160, .inl g_n)), (q0, .inl (c_s, n_s, .inl g_s))] ∧ px_N U)) (va_Qv (fun (u : Nat × Int32 × Int32 × Int32 × Int32 × Int32 × Int32 × Int32 × Int32 × Int32 × Int32 × Int32 × Int32 × Int32 × Int32 × (Nat → Int32) × (Nat → Int32)) => post u.1 u.2.1 u.2.2.1 u.2.2.2.1 u.2.2.2.2.1 u.2.2.2.2.2.1 u.2.2.2.2.2.2.1 u.2.2.2.2.2.2.2.1 u.2.2.2.2.2.2.2.2.1 u.2.2.2.2.2.2.2.2.2.1 u.2.2.2.2.2.2.2.2.2.2.1 u.2.2.2.2.2.2.2.2.2.2.2.1 u.2.2.2.2.2.2.2.2.2.2.2.2.1 u.2.2.2.2.2.2.2.2.2.2.2.2.2.1 u.2.2.2.2.2.2.2.2.2.2.2.2.2.2.1 u.2.2.2.2.2.2.2.2.2.2.2.2.2.2.2.1 u.2.2.2.2.2.2.2.2.2.2.2.2.2.2.2.2) (fun (u : Nat × Int32 × Int32 × Int32 × Int32 × Int32 × Int32 × Int32 × Int32 × Int32 × Int32 × Int32 × Int32 × Int32 × Int32 × (Nat → Int32) × (Nat → Int32)) (t : State) => va_P (dC, dI) vwCl [(h_s, .inr (6, [.ref h_t, .ref q_n, .ref (adB u.1), .int u.2.1, .int u.2.2.1, .int u.2.2.2.1, .int u.2.2.2.2.1, .int u.2.2.2.2.2.1, .int u.2.2.2.2.2.2.1, .int u.2.2.2.2.2.2.2.1, .int u.2.2.2.2.2.2.2.2.1, .int u.2.2.2.2.2.2.2.2.2.1])), (h_t, .inr (5, [.ref q0, .int u.2.2.2.2.2.2.2.2.2.2.1, .int u.2.2.2.2.2.2.2.2.2.2.2.1, .int u.2.2.2.2.2.2.2.2.2.2.2.2.1, .int u.2.2.2.2.2.2.2.2.2.2.2.2.2.1, .int u.2.2.2.2.2.2.2.2.2.2.2.2.2.2.1])), (q_n, .inl (c_i, 160, .inl u.2.2.2.2.2.2.2.2.2.2.2.2.2.2.2.1)), (q0, .inl (c_s, n_s, .inl u.2.2.2.2.2.2.2.2.2.2.2.2.2.2.2.2))] t.heap ∧ va_K (dC, dI) vwCl [(c_i, .int), (c_s, .byte)] t ∧ va_D (va_A [(h_s, .inr (6, [.ref h_t, .ref q_n, .ref (adB s_verb), .int s_target, .int s_first, .int s_second, .int s_field, .int s_head, .int s_next, .int s_many, .int s_rows, .int s_even])), (h_t, .inr (5, [.ref q0, .int t_length, .int t_behind, .int t_start, .int t_kind, .int t_value])), (q_n, .inl (c_i, 160, .inl g_n)), (q0, .inl (c_s, n_s, .inl g_s))] sz) [(h_s, .inr (6, [.ref h_t, .ref q_n, .ref (adB u.1), .int u.2.1, .int u.2.2.1, .int u.2.2.2.1, .int u.2.2.2.2.1, .int u.2.2.2.2.2.1, .int u.2.2.2.2.2.2.1, .int u.2.2.2.2.2.2.2.1, .int u.2.2.2.2.2.2.2.2.1, .int u.2.2.2.2.2.2.2.2.2.1])), (h_t, .inr (5, [.ref q0, .int u.2.2.2.2.2.2.2.2.2.2.1, .int u.2.2.2.2.2.2.2.2.2.2.2.1, .int u.2.2.2.2.2.2.2.2.2.2.2.2.1, .int u.2.2.2.2.2.2.2.2.2.2.2.2.2.1, .int u.2.2.2.2.2.2.2.2.2.2.2.2.2.2.1])), (q_n, .inl (c_i, 160, .inl u.2.2.2.2.2.2.2.2.2.2.2.2.2.2.2.1)), (q0, .inl (c_s, n_s, .inl u.2.2.2.2.2.2.2.2.2.2.2.2.2.2.2.2))]) (va_A [(h_s, .inr (6, [.ref h_t, .ref q_n, .ref (adB s_verb), .int s_target, .int s_first, .int s_second, .int s_field, .int s_head, .int s_next, .int s_many, .int s_rows, .int s_even])), (h_t, .inr (5, [.ref q0, .int t_length, .int t_behind, .int t_start, .int t_kind, .int t_value])), (q_n, .inl (c_i, 160, .inl g_n)), (q0, .inl (c_s, n_s, .inl g_s))] sz)) 0 0 (va_A [(h_s, .inr (6, [.ref h_t, .ref q_n, .ref (adB s_verb), .int s_target, .int s_first, .int s_second, .int s_field, .int s_head, .int s_next, .int s_many, .int s_rows, .int s_even])), (h_t, .inr (5, [.ref q0, .int t_length, .int t_behind, .int t_start, .int t_kind, .int t_value])), (q_n, .inl (c_i, 160, .inl g_n)), (q0, .inl (c_s, n_s, .inl g_s))] sz) := by
  refine Met.ofW (cc := prog_9_method_12_code) (maxL := 1) (ret := none) (by decide) rfl ?_
  intro p e s m args below meth c s₁ B hml hv
  obtain ⟨rfl, hsz, hP, hK, hD0, hN⟩ := hv
  have hx := B.exec
  have hb := B.bytes
  have hr := B.returns
  have htw : ∀ w ∈ px_all, w.before _ s = true := fun w h => atoms_spec (ws := px_s166) B.pre w (List.mem_cons_of_mem _ h)
  have hown : s.vm.findClass "MatroidDesk$Statement" = some m.cls := findClass_of_methodNamed B.named
  have hlocks := B.notSynchronized
  subst hsz
  have hD := hD0.self (sz := s.heap.size)
  generalize hAe : va_A [(h_s, .inr (6, [.ref h_t, .ref q_n, .ref (adB s_verb), .int s_target, .int s_first, .int s_second, .int s_field, .int s_head, .int s_next, .int s_many, .int s_rows, .int s_even])), (h_t, .inr (5, [.ref q0, .int t_length, .int t_behind, .int t_start, .int t_kind, .int t_value])), (q_n, .inl (c_i, 160, .inl g_n)), (q0, .inl (c_s, n_s, .inl g_s))] s.heap.size = A at hD ⊢
  have hA : ∀ q : Nat, s.heap.size ≤ q → A q := fun q h => by rw [← hAe]; exact Or.inr h
  have hS : va_S A s.heap s.heap [] := va_S.rf
  have hP : va_P (dC, dI) vwCl [(h_s, .inr (6, [.ref h_t, .ref q_n, .ref (adB s_verb), .int s_target, .int s_first, .int s_second, .int s_field, .int s_head, .int s_next, .int s_many, .int s_rows, .int s_even])), (h_t, .inr (5, [.ref q0, .int t_length, .int t_behind, .int t_start, .int t_kind, .int t_value])), (q_n, .inl (c_i, 160, .inl g_n)), (q0, .inl (c_s, n_s, .inl g_s))] s.heap := hP
  have hl := lv_entry ([.ref h_s]) (n := 1) (Nat.le_of_ble_eq_true rfl)
  rw [lg_entry_eq]
  generalize (lg_sl ([.ref h_s]) ++ List.replicate (1 - (lg_sl ([.ref h_s])).length) Slot.unset).toArray = ls at hl ⊢
  have hl : lv_has ls 1 [(0, .ref h_s)] := hl
  generalize hQ : MQ _ _ _ _ _ _ _ = Q
  have S26 : ∀ (s_verb : Nat) (s_target : Int32) (s_first : Int32) (s_second : Int32) (s_field : Int32) (s_head : Int32) (s_next : Int32) (s_many : Int32) (s_rows : Int32) (s_even : Int32) (t_length : Int32) (t_behind : Int32) (t_start : Int32) (t_kind : Int32) (t_value : Int32) (g_n : Nat → Int32) (g_s : Nat → Int32) (H : Heap) (locs : List Loc) (ls : Array Slot), va_P (dC, dI) vwCl [(h_s, .inr (6, [.ref h_t, .ref q_n, .ref (adB s_verb), .int s_target, .int s_first, .int s_second, .int s_field, .int s_head, .int s_next, .int s_many, .int s_rows, .int s_even])), (h_t, .inr (5, [.ref q0, .int t_length, .int t_behind, .int t_start, .int t_kind, .int t_value])), (q_n, .inl (c_i, 160, .inl g_n)), (q0, .inl (c_s, n_s, .inl g_s))] H → va_D A [(h_s, .inr (6, [.ref h_t, .ref q_n, .ref (adB s_verb), .int s_target, .int s_first, .int s_second, .int s_field, .int s_head, .int s_next, .int s_many, .int s_rows, .int s_even])), (h_t, .inr (5, [.ref q0, .int t_length, .int t_behind, .int t_start, .int t_kind, .int t_value])), (q_n, .inl (c_i, 160, .inl g_n)), (q0, .inl (c_s, n_s, .inl g_s))] → va_S A s.heap H locs → lv_has ls 1 [(0, .ref h_s)] → w166_L26 n_s post s_verb s_target s_first s_second s_field s_head s_next s_many s_rows s_even t_length t_behind t_start t_kind t_value g_n g_s → W p l e (headSpec px_s166 ({ frames := 0, cells := 0, slots := 0, locals := 0 })).room s m ([.ref h_s]).toArray below meth c H locs 0 0 Q (F0 m 26 ls []) := by
    intro s_verb s_target s_first s_second s_field s_head s_next s_many s_rows s_even t_length t_behind t_start t_kind t_value g_n g_s H locs ls hP hD hS hl hw
    unfold w166_L26 at hw
    refine lv_aload_n hx hb px_d166_26 rfl (lv_at hl 0 rfl) ?_
    refine lv_dup hx hb px_d166_27 rfl ?_
    refine va_get (D := (dC, dI)) (ci := 6) (v := .int s_many) (C := "MatroidDesk$Statement") (T := px_T6) (N := 12) hx hb htw px_in6 hown hK hP 0 rfl rfl 9 (by decide) (htw _ px_w858) (fun _ h9 => h9) rfl px_d166_28 ?_
    refine lv_iconst (v := 1) hx hb px_d166_31 (by decide) ?_
    refine lv_iadd hx hb px_d166_32 ?_
    refine lv_topi (fun z1 ez1 => ?_)
    have hw := hw z1 ez1
    refine va_put (D := (dC, dI)) (ci := 6) (v := .int z1) (ty := .int) (C := "MatroidDesk$Statement") (T := px_T6) (N := 12) hx hb htw px_in6 px_ty6 px_tyok6 px_nm6 hown hK hP hD hS 0 rfl rfl 9 (by decide) (htw _ px_w858) (fun _ h9 => h9) rfl (by decide +kernel) rfl rfl (Nat.le_of_ble_eq_true rfl) px_d166_33 (fun H locs hP hD hS => ?_)
    have hP : va_P (dC, dI) vwCl [(h_s, .inr (6, [.ref h_t, .ref q_n, .ref (adB s_verb), .int s_target, .int s_first, .int s_second, .int s_field, .int s_head, .int s_next, .int z1, .int s_rows, .int s_even])), (h_t, .inr (5, [.ref q0, .int t_length, .int t_behind, .int t_start, .int t_kind, .int t_value])), (q_n, .inl (c_i, 160, .inl g_n)), (q0, .inl (c_s, n_s, .inl g_s))] H := hP
    have hD : va_D A [(h_s, .inr (6, [.ref h_t, .ref q_n, .ref (adB s_verb), .int s_target, .int s_first, .int s_second, .int s_field, .int s_head, .int s_next, .int z1, .int s_rows, .int s_even])), (h_t, .inr (5, [.ref q0, .int t_length, .int t_behind, .int t_start, .int t_kind, .int t_value])), (q_n, .inl (c_i, 160, .inl g_n)), (q0, .inl (c_s, n_s, .inl g_s))] := hD
    rw [← hQ]
    exact W.vret hx hb hr (fun t ht hW => ⟨⟨(s_verb, s_target, s_first, s_second, s_field, s_head, s_next, z1, s_rows, s_even, t_length, t_behind, t_start, t_kind, t_value, g_n, g_s), rfl, hw, by rw [ht]; exact hP, va_K.moved hW.alike hK, hD⟩, hS.F ht⟩) hS.2.2 px_d166_36
  unfold w166_wp at hw
  have hS0 := hS
  obtain ⟨H, hH9⟩ : ∃ z, z = s.heap := ⟨_, rfl⟩
  have hP : va_P (dC, dI) vwCl [(h_s, .inr (6, [.ref h_t, .ref q_n, .ref (adB s_verb), .int s_target, .int s_first, .int s_second, .int s_field, .int s_head, .int s_next, .int s_many, .int s_rows, .int s_even])), (h_t, .inr (5, [.ref q0, .int t_length, .int t_behind, .int t_start, .int t_kind, .int t_value])), (q_n, .inl (c_i, 160, .inl g_n)), (q0, .inl (c_s, n_s, .inl g_s))] H := by rw [hH9]; exact hP
  obtain ⟨locs, hlo9⟩ : ∃ z : List Loc, z = [] := ⟨_, rfl⟩
  have hS : va_S A s.heap H locs := by rw [hH9, hlo9]; exact hS
  suffices hG : W p l e (headSpec px_s166 ({ frames := 0, cells := 0, slots := 0, locals := 0 })).room s m ([.ref h_s]).toArray below meth c H locs 0 0 Q (F0 m 0 ls []) by rw [hH9, hlo9] at hG; exact hG
  refine lv_aload_n hx hb px_d166_0 rfl (lv_at hl 0 rfl) ?_
  refine va_get (D := (dC, dI)) (ci := 6) (v := .int s_many) (C := "MatroidDesk$Statement") (T := px_T6) (N := 12) hx hb htw px_in6 hown hK hP 0 rfl rfl 9 (by decide) (htw _ px_w858) (fun _ h9 => h9) rfl px_d166_1 ?_
  refine lv_sipush (v := 160) hx hb px_d166_4 (by decide) ?_
  refine lv_icmp_ge (tgt := 26) hx hb px_d166_7 (by decide) (fun c7 => ?_) (fun c7 => ?_)
  · have hw := hw.1 c7
    exact S26 s_verb s_target s_first s_second s_field s_head s_next s_many s_rows s_even t_length t_behind t_start t_kind t_value g_n g_s H locs ls hP hD hS (lv_sub hl [0] rfl) hw
  · have hw := hw.2 c7
    refine lv_aload_n hx hb px_d166_10 rfl (lv_at hl 0 rfl) ?_
    refine va_get (D := (dC, dI)) (ci := 6) (v := .ref q_n) (C := "MatroidDesk$Statement") (T := px_T6) (N := 12) hx hb htw px_in6 hown hK hP 0 rfl rfl 1 (by decide) (htw _ px_w226) (fun _ h9 => h9) rfl px_d166_11 ?_
    refine lv_aload_n hx hb px_d166_14 rfl (lv_at hl 0 rfl) ?_
    refine va_get (D := (dC, dI)) (ci := 6) (v := .int s_many) (C := "MatroidDesk$Statement") (T := px_T6) (N := 12) hx hb htw px_in6 hown hK hP 0 rfl rfl 9 (by decide) (htw _ px_w858) (fun _ h9 => h9) rfl px_d166_15 ?_
    refine lv_aload_n hx hb px_d166_18 rfl (lv_at hl 0 rfl) ?_
    refine va_get (D := (dC, dI)) (ci := 6) (v := .ref h_t) (C := "MatroidDesk$Statement") (T := px_T6) (N := 12) hx hb htw px_in6 hown hK hP 0 rfl rfl 0 (by decide) (htw _ px_w225) (fun _ h9 => h9) rfl px_d166_19 ?_
    refine va_getN (D := (dC, dI)) (ci := 5) (v := .int t_value) (C := "MatroidDesk$Tokens") (T := px_T5) (N := 6) hx hb htw px_in5 hown hK hP 1 rfl rfl 5 (by decide) (va_Nw.use (w := .fieldLinkNest "MatroidDesk$Statement" 123 "MatroidDesk$Tokens" "value" "I" "MatroidDesk") rfl (hN.1 ("MatroidDesk$Statement", 123, "MatroidDesk$Tokens", "value", "I", "MatroidDesk") px_nf7)) (fun _ h9 => h9) rfl px_d166_22 ?_
    obtain ⟨hi25, hw⟩ := hw
    refine va_iast hx hb hK hP hD hS 2 0 rfl rfl hi25 px_d166_25 (fun H locs hP hD hS => ?_)
    have hP : va_P (dC, dI) vwCl [(h_s, .inr (6, [.ref h_t, .ref q_n, .ref (adB s_verb), .int s_target, .int s_first, .int s_second, .int s_field, .int s_head, .int s_next, .int s_many, .int s_rows, .int s_even])), (h_t, .inr (5, [.ref q0, .int t_length, .int t_behind, .int t_start, .int t_kind, .int t_value])), (q_n, .inl (c_i, 160, .inl (upd g_n (Int32.toNatClampNeg s_many) t_value))), (q0, .inl (c_s, n_s, .inl g_s))] H := hP
    have hD : va_D A [(h_s, .inr (6, [.ref h_t, .ref q_n, .ref (adB s_verb), .int s_target, .int s_first, .int s_second, .int s_field, .int s_head, .int s_next, .int s_many, .int s_rows, .int s_even])), (h_t, .inr (5, [.ref q0, .int t_length, .int t_behind, .int t_start, .int t_kind, .int t_value])), (q_n, .inl (c_i, 160, .inl (upd g_n (Int32.toNatClampNeg s_many) t_value))), (q0, .inl (c_s, n_s, .inl g_s))] := hD
    exact S26 s_verb s_target s_first s_second s_field s_head s_next s_many s_rows s_even t_length t_behind t_start t_kind t_value (upd g_n (Int32.toNatClampNeg s_many) t_value) g_s H locs ls hP hD hS (lv_sub hl [0] rfl) hw

/-! MatroidDesk$Statement.skip(I)Z -/
def w147_wp (n_s : Nat) (post : Int32 → Nat → Int32 → Int32 → Int32 → Int32 → Int32 → Int32 → Int32 → Int32 → Int32 → Int32 → Int32 → Int32 → Int32 → Int32 → (Nat → Int32) → (Nat → Int32) → Prop) (a1x : Int32) (s_verb : Nat) (s_target : Int32) (s_first : Int32) (s_second : Int32) (s_field : Int32) (s_head : Int32) (s_next : Int32) (s_many : Int32) (s_rows : Int32) (s_even : Int32) (t_length : Int32) (t_behind : Int32) (t_start : Int32) (t_kind : Int32) (t_value : Int32) (g_n : Nat → Int32) (g_s : Nat → Int32) : Prop := (t_kind = a1x → w138_wp n_s (fun v1 v2 v3 v4 v5 v6 => narrow .boolean (.int 1) = .int 1 ∧ post 1 s_verb s_target s_first s_second s_field s_head s_next s_many s_rows s_even v1 v2 v3 v4 v5 g_n v6) t_length t_behind t_start t_kind t_value g_s) ∧ (¬ t_kind = a1x → narrow .boolean (.int 0) = .int 0 ∧ post 0 s_verb s_target s_first s_second s_field s_head s_next s_many s_rows s_even t_length t_behind t_start t_kind t_value g_n g_s)
set_option maxHeartbeats 8000000 in
set_option maxRecDepth 100000 in
theorem w147_met (l : Launch) (dC : Nat → ClassId) (dI : Nat → Nat → Nat) (sz : Nat) (adB : Nat → Nat) (h_s : Nat) (h_t : Nat) (q_n : Nat) (q0 : Nat) (n_s : Nat) (c_i : ClassId) (c_s : ClassId) (a1x : Int32) (s_verb : Nat) (s_target : Int32) (s_first : Int32) (s_second : Int32) (s_field : Int32) (s_head : Int32) (s_next : Int32) (s_many : Int32) (s_rows : Int32) (s_even : Int32) (t_length : Int32) (t_behind : Int32) (t_start : Int32) (t_kind : Int32) (t_value : Int32) (g_n : Nat → Int32) (g_s : Nat → Int32) (post : Int32 → Nat → Int32 → Int32 → Int32 → Int32 → Int32 → Int32 → Int32 → Int32 → Int32 → Int32 → Int32 → Int32 → Int32 → Int32 → (Nat → Int32) → (Nat → Int32) → Prop) (hw : w147_wp n_s post a1x s_verb s_target s_first s_second s_field s_head s_next s_many s_rows s_even t_length t_behind t_start t_kind t_value g_n g_s) : Met l px_y147 px_s147 ({ frames := 3, cells := 0, slots := 0, locals := 65 }) (va_Pc [.ref h_s, .int a1x] (fun U => U.heap.size = sz ∧ va_P (dC, dI) vwCl [(h_s, .inr (6, [.ref h_t, .ref q_n, .ref (adB s_verb), .int s_target, .int s_first, .int s_second, .int s_field, .int s_head, .int s_next, .int s_many, .int s_rows, .int s_even])), (h_t, .inr (5, [.ref q0, .int t_length, .int t_behind, .int t_start, .int t_kind, .int t_value])), (q_n, .inl (c_i, 160, .inl g_n)), (q0, .inl (c_s, n_s, .inl g_s))] U.heap ∧ va_K (dC, dI) vwCl [(c_i, .int), (c_s, .byte)] U ∧ va_D (fun _ => True) [(h_s, .inr (6, [.ref h_t, .ref q_n, .ref (adB s_verb), .int s_target, .int s_first, .int s_second, .int s_field, .int s_head, .int s_next, .int s_many, .int s_rows, .int s_even])), (h_t, .inr (5, [.ref q0, .int t_length, .int t_behind, .int t_start, .int t_kind, .int t_value])), (q_n, .inl (c_i, 160, .inl g_n)), (q0, .inl (c_s, n_s, .inl g_s))] ∧ px_N U)) (va_Qi (fun (r : Int32) (u : Nat × Int32 × Int32 × Int32 × Int32 × Int32 × Int32 × Int32 × Int32 × Int32 × Int32 × Int32 × Int32 × Int32 × Int32 × (Nat → Int32) × (Nat → Int32)) => post r u.1 u.2.1 u.2.2.1 u.2.2.2.1 u.2.2.2.2.1 u.2.2.2.2.2.1 u.2.2.2.2.2.2.1 u.2.2.2.2.2.2.2.1 u.2.2.2.2.2.2.2.2.1 u.2.2.2.2.2.2.2.2.2.1 u.2.2.2.2.2.2.2.2.2.2.1 u.2.2.2.2.2.2.2.2.2.2.2.1 u.2.2.2.2.2.2.2.2.2.2.2.2.1 u.2.2.2.2.2.2.2.2.2.2.2.2.2.1 u.2.2.2.2.2.2.2.2.2.2.2.2.2.2.1 u.2.2.2.2.2.2.2.2.2.2.2.2.2.2.2.1 u.2.2.2.2.2.2.2.2.2.2.2.2.2.2.2.2) (fun (u : Nat × Int32 × Int32 × Int32 × Int32 × Int32 × Int32 × Int32 × Int32 × Int32 × Int32 × Int32 × Int32 × Int32 × Int32 × (Nat → Int32) × (Nat → Int32)) (t : State) => va_P (dC, dI) vwCl [(h_s, .inr (6, [.ref h_t, .ref q_n, .ref (adB u.1), .int u.2.1, .int u.2.2.1, .int u.2.2.2.1, .int u.2.2.2.2.1, .int u.2.2.2.2.2.1, .int u.2.2.2.2.2.2.1, .int u.2.2.2.2.2.2.2.1, .int u.2.2.2.2.2.2.2.2.1, .int u.2.2.2.2.2.2.2.2.2.1])), (h_t, .inr (5, [.ref q0, .int u.2.2.2.2.2.2.2.2.2.2.1, .int u.2.2.2.2.2.2.2.2.2.2.2.1, .int u.2.2.2.2.2.2.2.2.2.2.2.2.1, .int u.2.2.2.2.2.2.2.2.2.2.2.2.2.1, .int u.2.2.2.2.2.2.2.2.2.2.2.2.2.2.1])), (q_n, .inl (c_i, 160, .inl u.2.2.2.2.2.2.2.2.2.2.2.2.2.2.2.1)), (q0, .inl (c_s, n_s, .inl u.2.2.2.2.2.2.2.2.2.2.2.2.2.2.2.2))] t.heap ∧ va_K (dC, dI) vwCl [(c_i, .int), (c_s, .byte)] t ∧ va_D (va_A [(h_s, .inr (6, [.ref h_t, .ref q_n, .ref (adB s_verb), .int s_target, .int s_first, .int s_second, .int s_field, .int s_head, .int s_next, .int s_many, .int s_rows, .int s_even])), (h_t, .inr (5, [.ref q0, .int t_length, .int t_behind, .int t_start, .int t_kind, .int t_value])), (q_n, .inl (c_i, 160, .inl g_n)), (q0, .inl (c_s, n_s, .inl g_s))] sz) [(h_s, .inr (6, [.ref h_t, .ref q_n, .ref (adB u.1), .int u.2.1, .int u.2.2.1, .int u.2.2.2.1, .int u.2.2.2.2.1, .int u.2.2.2.2.2.1, .int u.2.2.2.2.2.2.1, .int u.2.2.2.2.2.2.2.1, .int u.2.2.2.2.2.2.2.2.1, .int u.2.2.2.2.2.2.2.2.2.1])), (h_t, .inr (5, [.ref q0, .int u.2.2.2.2.2.2.2.2.2.2.1, .int u.2.2.2.2.2.2.2.2.2.2.2.1, .int u.2.2.2.2.2.2.2.2.2.2.2.2.1, .int u.2.2.2.2.2.2.2.2.2.2.2.2.2.1, .int u.2.2.2.2.2.2.2.2.2.2.2.2.2.2.1])), (q_n, .inl (c_i, 160, .inl u.2.2.2.2.2.2.2.2.2.2.2.2.2.2.2.1)), (q0, .inl (c_s, n_s, .inl u.2.2.2.2.2.2.2.2.2.2.2.2.2.2.2.2))]) (va_A [(h_s, .inr (6, [.ref h_t, .ref q_n, .ref (adB s_verb), .int s_target, .int s_first, .int s_second, .int s_field, .int s_head, .int s_next, .int s_many, .int s_rows, .int s_even])), (h_t, .inr (5, [.ref q0, .int t_length, .int t_behind, .int t_start, .int t_kind, .int t_value])), (q_n, .inl (c_i, 160, .inl g_n)), (q0, .inl (c_s, n_s, .inl g_s))] sz)) 0 0 (va_A [(h_s, .inr (6, [.ref h_t, .ref q_n, .ref (adB s_verb), .int s_target, .int s_first, .int s_second, .int s_field, .int s_head, .int s_next, .int s_many, .int s_rows, .int s_even])), (h_t, .inr (5, [.ref q0, .int t_length, .int t_behind, .int t_start, .int t_kind, .int t_value])), (q_n, .inl (c_i, 160, .inl g_n)), (q0, .inl (c_s, n_s, .inl g_s))] sz) := by
  refine Met.ofW (cc := prog_9_method_13_code) (maxL := 2) (ret := (some .boolean)) (by decide) rfl ?_
  intro p e s m args below meth c s₁ B hml hv
  obtain ⟨rfl, hsz, hP, hK, hD0, hN⟩ := hv
  have hx := B.exec
  have hb := B.bytes
  have hr := B.returns
  have htw : ∀ w ∈ px_all, w.before _ s = true := fun w h => atoms_spec (ws := px_s147) B.pre w (List.mem_cons_of_mem _ h)
  have hown : s.vm.findClass "MatroidDesk$Statement" = some m.cls := findClass_of_methodNamed B.named
  have hlocks := B.notSynchronized
  subst hsz
  have hD := hD0.self (sz := s.heap.size)
  generalize hAe : va_A [(h_s, .inr (6, [.ref h_t, .ref q_n, .ref (adB s_verb), .int s_target, .int s_first, .int s_second, .int s_field, .int s_head, .int s_next, .int s_many, .int s_rows, .int s_even])), (h_t, .inr (5, [.ref q0, .int t_length, .int t_behind, .int t_start, .int t_kind, .int t_value])), (q_n, .inl (c_i, 160, .inl g_n)), (q0, .inl (c_s, n_s, .inl g_s))] s.heap.size = A at hD ⊢
  have hA : ∀ q : Nat, s.heap.size ≤ q → A q := fun q h => by rw [← hAe]; exact Or.inr h
  have hS : va_S A s.heap s.heap [] := va_S.rf
  have hP : va_P (dC, dI) vwCl [(h_s, .inr (6, [.ref h_t, .ref q_n, .ref (adB s_verb), .int s_target, .int s_first, .int s_second, .int s_field, .int s_head, .int s_next, .int s_many, .int s_rows, .int s_even])), (h_t, .inr (5, [.ref q0, .int t_length, .int t_behind, .int t_start, .int t_kind, .int t_value])), (q_n, .inl (c_i, 160, .inl g_n)), (q0, .inl (c_s, n_s, .inl g_s))] s.heap := hP
  have hl := lv_entry ([.ref h_s, .int a1x]) (n := 2) (Nat.le_of_ble_eq_true rfl)
  rw [lg_entry_eq]
  generalize (lg_sl ([.ref h_s, .int a1x]) ++ List.replicate (2 - (lg_sl ([.ref h_s, .int a1x])).length) Slot.unset).toArray = ls at hl ⊢
  have hl : lv_has ls 2 [(0, .ref h_s), (1, .int a1x)] := hl
  generalize hQ : MQ _ _ _ _ _ _ _ = Q
  unfold w147_wp at hw
  have hS0 := hS
  obtain ⟨H, hH9⟩ : ∃ z, z = s.heap := ⟨_, rfl⟩
  have hP : va_P (dC, dI) vwCl [(h_s, .inr (6, [.ref h_t, .ref q_n, .ref (adB s_verb), .int s_target, .int s_first, .int s_second, .int s_field, .int s_head, .int s_next, .int s_many, .int s_rows, .int s_even])), (h_t, .inr (5, [.ref q0, .int t_length, .int t_behind, .int t_start, .int t_kind, .int t_value])), (q_n, .inl (c_i, 160, .inl g_n)), (q0, .inl (c_s, n_s, .inl g_s))] H := by rw [hH9]; exact hP
  obtain ⟨locs, hlo9⟩ : ∃ z : List Loc, z = [] := ⟨_, rfl⟩
  have hS : va_S A s.heap H locs := by rw [hH9, hlo9]; exact hS
  suffices hG : W p l e (headSpec px_s147 ({ frames := 3, cells := 0, slots := 0, locals := 65 })).room s m ([.ref h_s, .int a1x]).toArray below meth c H locs 0 0 Q (F0 m 0 ls []) by rw [hH9, hlo9] at hG; exact hG
  refine lv_aload_n hx hb px_d147_0 rfl (lv_at hl 0 rfl) ?_
  refine va_get (D := (dC, dI)) (ci := 6) (v := .ref h_t) (C := "MatroidDesk$Statement") (T := px_T6) (N := 12) hx hb htw px_in6 hown hK hP 0 rfl rfl 0 (by decide) (htw _ px_w225) (fun _ h9 => h9) rfl px_d147_1 ?_
  refine va_getN (D := (dC, dI)) (ci := 5) (v := .int t_kind) (C := "MatroidDesk$Tokens") (T := px_T5) (N := 6) hx hb htw px_in5 hown hK hP 1 rfl rfl 4 (by decide) (va_Nw.use (w := .fieldLinkNest "MatroidDesk$Statement" 120 "MatroidDesk$Tokens" "kind" "I" "MatroidDesk") rfl (hN.1 ("MatroidDesk$Statement", 120, "MatroidDesk$Tokens", "kind", "I", "MatroidDesk") px_nf6)) (fun _ h9 => h9) rfl px_d147_4 ?_
  refine lv_iload_n hx hb px_d147_7 rfl (lv_at hl 1 rfl) ?_
  refine lv_icmp_eq (tgt := 13) hx hb px_d147_8 (by decide) (fun c8 => ?_) (fun c8 => ?_)
  · have hw := hw.1 c8
    refine lv_aload_n hx hb px_d147_13 rfl (lv_at hl 0 rfl) ?_
    refine va_get (D := (dC, dI)) (ci := 6) (v := .ref h_t) (C := "MatroidDesk$Statement") (T := px_T6) (N := 12) hx hb htw px_in6 hown hK hP 0 rfl rfl 0 (by decide) (htw _ px_w225) (fun _ h9 => h9) rfl px_d147_14 ?_
    have hPc := hP.sub (ws' := [(h_t, .inr (5, [.ref q0, .int t_length, .int t_behind, .int t_start, .int t_kind, .int t_value])), (q0, .inl (c_s, n_s, .inl g_s))]) [1, 3] rfl
    have hDc := hD.sub (ws' := [(h_t, .inr (5, [.ref q0, .int t_length, .int t_behind, .int t_start, .int t_kind, .int t_value])), (q0, .inl (c_s, n_s, .inl g_s))]) [1, 3] (by decide) rfl
    have hKc := hK.sub (tys' := [(c_s, .byte)]) [1] rfl
    have hFc := va_free (wc := [(h_t, .inr (5, [.ref q0, .int t_length, .int t_behind, .int t_start, .int t_kind, .int t_value])), (q0, .inl (c_s, n_s, .inl g_s))]) hD hS hA [1, 3] rfl
    refine va_callv (va_runV (As := []) (rest := []) ⟨hx, hb, hml, hown, htw⟩ (w138_met l dC dI H.size h_t q0 n_s c_s t_length t_behind t_start t_kind t_value g_s _ hw) (cwV 0 htw (px_gv px_w872 px_w830 px_w831 px_w66 px_g138) rfl rfl rfl (by decide +kernel) ⟨Nat.le_of_ble_eq_true rfl, Nat.le_of_ble_eq_true rfl⟩) ⟨fun a U g mk q => by obtain ⟨q0, q1, qP, qK, qD, qN⟩ := q; exact ⟨q0, q1, qP, va_K.moved (u := U) (U := U.calling g mk a) (Vm.Alike.refl U.vm) qK, qD, qN.same rfl⟩, va_recv hK hP (ci := 5) (q0 := 1) rfl rfl, fun U hU hW => ⟨rfl, by rw [hU], by rw [hU]; exact hPc, va_K.moved hW.alike hKc, hDc.weaken (fun _ _ _ _ => trivial), hN.warm hW⟩⟩ rfl rfl hl.1 rfl (lv_room (Nat.le_of_ble_eq_true rfl)) px_d147_17 ⟨(Nat.le_of_ble_eq_true rfl), (Nat.le_of_ble_eq_true rfl)⟩) hS (fun q _ h => hFc q h) hFc (fun u t H1 locs ht hvm hw hB hz1 hk1 hS => ?_)
    obtain ⟨v1, v2, v3, v4, v5, v6⟩ := u
    obtain ⟨hP1, hK1, hD1⟩ := hB
    rw [ht] at hP1
    have hK1 := va_K.moved hvm.symm hK1
    obtain ⟨hP, hD⟩ := va_join (wr := [(h_s, .inr (6, [.ref h_t, .ref q_n, .ref (adB s_verb), .int s_target, .int s_first, .int s_second, .int s_field, .int s_head, .int s_next, .int s_many, .int s_rows, .int s_even])), (q_n, .inl (c_i, 160, .inl g_n))]) (w1 := [(h_t, .inr (5, [.ref q0, .int v1, .int v2, .int v3, .int v4, .int v5])), (q0, .inl (c_s, n_s, .inl v6))]) hP hD [1, 3] [0, 2] rfl rfl (by decide) (by decide) hk1 hFc hP1 hD1
    generalize H1 = H at hP hS ⊢
    have hP : va_P (dC, dI) vwCl [(h_s, .inr (6, [.ref h_t, .ref q_n, .ref (adB s_verb), .int s_target, .int s_first, .int s_second, .int s_field, .int s_head, .int s_next, .int s_many, .int s_rows, .int s_even])), (q_n, .inl (c_i, 160, .inl g_n)), (h_t, .inr (5, [.ref q0, .int v1, .int v2, .int v3, .int v4, .int v5])), (q0, .inl (c_s, n_s, .inl v6))] H := hP
    have hD : va_D A [(h_s, .inr (6, [.ref h_t, .ref q_n, .ref (adB s_verb), .int s_target, .int s_first, .int s_second, .int s_field, .int s_head, .int s_next, .int s_many, .int s_rows, .int s_even])), (q_n, .inl (c_i, 160, .inl g_n)), (h_t, .inr (5, [.ref q0, .int v1, .int v2, .int v3, .int v4, .int v5])), (q0, .inl (c_s, n_s, .inl v6))] := hD
    have hP := hP.sub (ws' := [(h_s, .inr (6, [.ref h_t, .ref q_n, .ref (adB s_verb), .int s_target, .int s_first, .int s_second, .int s_field, .int s_head, .int s_next, .int s_many, .int s_rows, .int s_even])), (h_t, .inr (5, [.ref q0, .int v1, .int v2, .int v3, .int v4, .int v5])), (q_n, .inl (c_i, 160, .inl g_n)), (q0, .inl (c_s, n_s, .inl v6))]) [0, 2, 1, 3] rfl
    have hD := hD.sub (ws' := [(h_s, .inr (6, [.ref h_t, .ref q_n, .ref (adB s_verb), .int s_target, .int s_first, .int s_second, .int s_field, .int s_head, .int s_next, .int s_many, .int s_rows, .int s_even])), (h_t, .inr (5, [.ref q0, .int v1, .int v2, .int v3, .int v4, .int v5])), (q_n, .inl (c_i, 160, .inl g_n)), (q0, .inl (c_s, n_s, .inl v6))]) [0, 2, 1, 3] (by decide) rfl
    refine lv_iconst (v := 1) hx hb px_d147_20 (by decide) ?_
    obtain ⟨hz9, hw⟩ := hw
    rw [← hQ]
    exact W.zret (v := 1) hx hb hr hz9 (fun t ht hW => ⟨⟨1, (s_verb, s_target, s_first, s_second, s_field, s_head, s_next, s_many, s_rows, s_even, v1, v2, v3, v4, v5, g_n, v6), rfl, hw, by rw [ht]; exact hP, va_K.moved hW.alike hK, hD⟩, hS.F ht⟩) hS.2.2 px_d147_21
  · have hw := hw.2 c8
    refine lv_iconst (v := 0) hx hb px_d147_11 (by decide) ?_
    obtain ⟨hz9, hw⟩ := hw
    rw [← hQ]
    exact W.zret (v := 0) hx hb hr hz9 (fun t ht hW => ⟨⟨0, (s_verb, s_target, s_first, s_second, s_field, s_head, s_next, s_many, s_rows, s_even, t_length, t_behind, t_start, t_kind, t_value, g_n, g_s), rfl, hw, by rw [ht]; exact hP, va_K.moved hW.alike hK, hD⟩, hS.F ht⟩) hS.2.2 px_d147_12

/-! MatroidDesk$Statement.within(I)Z -/
def w173_L44 (post : Int32 → Nat → Int32 → Int32 → Int32 → Int32 → Int32 → Int32 → Int32 → Int32 → Int32 → (Nat → Int32) → Prop) (x1 : Int32) (x2 : Int32) (s_verb : Nat) (s_target : Int32) (s_first : Int32) (s_second : Int32) (s_field : Int32) (s_head : Int32) (s_next : Int32) (s_many : Int32) (s_rows : Int32) (s_even : Int32) (g_n : Nat → Int32) : Prop := narrow .boolean (.int 1) = .int 1 ∧ post 1 s_verb s_target s_first s_second s_field s_head s_next s_many s_rows s_even g_n
def w173_L36 (post : Int32 → Nat → Int32 → Int32 → Int32 → Int32 → Int32 → Int32 → Int32 → Int32 → Int32 → (Nat → Int32) → Prop) (x1 : Int32) (x2 : Int32) (s_verb : Nat) (s_target : Int32) (s_first : Int32) (s_second : Int32) (s_field : Int32) (s_head : Int32) (s_next : Int32) (s_many : Int32) (s_rows : Int32) (s_even : Int32) (g_n : Nat → Int32) : Prop := narrow .boolean (.int 0) = .int 0 ∧ post 0 s_verb s_target s_first s_second s_field s_head s_next s_many s_rows s_even g_n
def w173_L2 (post : Int32 → Nat → Int32 → Int32 → Int32 → Int32 → Int32 → Int32 → Int32 → Int32 → Int32 → (Nat → Int32) → Prop) : Nat → Int32 → Int32 → Nat → Int32 → Int32 → Int32 → Int32 → Int32 → Int32 → Int32 → Int32 → Int32 → (Nat → Int32) → Prop
  | 0 => fun _ _ _ _ _ _ _ _ _ _ _ _ _ => False
  | k + 1 => fun x1 x2 s_verb s_target s_first s_second s_field s_head s_next s_many s_rows s_even g_n => (s_many ≤ x2 → w173_L44 post x1 x2 s_verb s_target s_first s_second s_field s_head s_next s_many s_rows s_even g_n) ∧ (¬ s_many ≤ x2 → (160 ≤ x2 → w173_L44 post x1 x2 s_verb s_target s_first s_second s_field s_head s_next s_many s_rows s_even g_n) ∧ (¬ 160 ≤ x2 → vp_in x2 160 ∧ (((g_n (Int32.toNatClampNeg x2)) < 0 → w173_L36 post x1 x2 s_verb s_target s_first s_second s_field s_head s_next s_many s_rows s_even g_n) ∧ (¬ (g_n (Int32.toNatClampNeg x2)) < 0 → vp_in x2 160 ∧ (((g_n (Int32.toNatClampNeg x2)) < x1 → ∀ z1 : Int32, z1 = x2 + 1 → (w173_L2 post k) x1 z1 s_verb s_target s_first s_second s_field s_head s_next s_many s_rows s_even g_n) ∧ (¬ (g_n (Int32.toNatClampNeg x2)) < x1 → w173_L36 post x1 x2 s_verb s_target s_first s_second s_field s_head s_next s_many s_rows s_even g_n))))))
def w173_wp (post : Int32 → Nat → Int32 → Int32 → Int32 → Int32 → Int32 → Int32 → Int32 → Int32 → Int32 → (Nat → Int32) → Prop) (a1x : Int32) (s_verb : Nat) (s_target : Int32) (s_first : Int32) (s_second : Int32) (s_field : Int32) (s_head : Int32) (s_next : Int32) (s_many : Int32) (s_rows : Int32) (s_even : Int32) (g_n : Nat → Int32) : Prop := ∃ j2, w173_L2 post j2 a1x 0 s_verb s_target s_first s_second s_field s_head s_next s_many s_rows s_even g_n
set_option maxHeartbeats 8000000 in
set_option maxRecDepth 100000 in
theorem w173_met (l : Launch) (dC : Nat → ClassId) (dI : Nat → Nat → Nat) (sz : Nat) (adB : Nat → Nat) (h_s : Nat) (h_t : Nat) (q_n : Nat) (c_i : ClassId) (a1x : Int32) (s_verb : Nat) (s_target : Int32) (s_first : Int32) (s_second : Int32) (s_field : Int32) (s_head : Int32) (s_next : Int32) (s_many : Int32) (s_rows : Int32) (s_even : Int32) (g_n : Nat → Int32) (post : Int32 → Nat → Int32 → Int32 → Int32 → Int32 → Int32 → Int32 → Int32 → Int32 → Int32 → (Nat → Int32) → Prop) (hw : w173_wp post a1x s_verb s_target s_first s_second s_field s_head s_next s_many s_rows s_even g_n) : Met l px_y173 px_s173 ({ frames := 0, cells := 0, slots := 0, locals := 0 }) (va_Pc [.ref h_s, .int a1x] (fun U => U.heap.size = sz ∧ va_P (dC, dI) vwCl [(h_s, .inr (6, [.ref h_t, .ref q_n, .ref (adB s_verb), .int s_target, .int s_first, .int s_second, .int s_field, .int s_head, .int s_next, .int s_many, .int s_rows, .int s_even])), (q_n, .inl (c_i, 160, .inl g_n))] U.heap ∧ va_K (dC, dI) vwCl [(c_i, .int)] U ∧ va_D (fun _ => True) [(h_s, .inr (6, [.ref h_t, .ref q_n, .ref (adB s_verb), .int s_target, .int s_first, .int s_second, .int s_field, .int s_head, .int s_next, .int s_many, .int s_rows, .int s_even])), (q_n, .inl (c_i, 160, .inl g_n))] ∧ px_N U)) (va_Qi (fun (r : Int32) (u : Nat × Int32 × Int32 × Int32 × Int32 × Int32 × Int32 × Int32 × Int32 × Int32 × (Nat → Int32)) => post r u.1 u.2.1 u.2.2.1 u.2.2.2.1 u.2.2.2.2.1 u.2.2.2.2.2.1 u.2.2.2.2.2.2.1 u.2.2.2.2.2.2.2.1 u.2.2.2.2.2.2.2.2.1 u.2.2.2.2.2.2.2.2.2.1 u.2.2.2.2.2.2.2.2.2.2) (fun (u : Nat × Int32 × Int32 × Int32 × Int32 × Int32 × Int32 × Int32 × Int32 × Int32 × (Nat → Int32)) (t : State) => va_P (dC, dI) vwCl [(h_s, .inr (6, [.ref h_t, .ref q_n, .ref (adB u.1), .int u.2.1, .int u.2.2.1, .int u.2.2.2.1, .int u.2.2.2.2.1, .int u.2.2.2.2.2.1, .int u.2.2.2.2.2.2.1, .int u.2.2.2.2.2.2.2.1, .int u.2.2.2.2.2.2.2.2.1, .int u.2.2.2.2.2.2.2.2.2.1])), (q_n, .inl (c_i, 160, .inl u.2.2.2.2.2.2.2.2.2.2))] t.heap ∧ va_K (dC, dI) vwCl [(c_i, .int)] t ∧ va_D (va_A [(h_s, .inr (6, [.ref h_t, .ref q_n, .ref (adB s_verb), .int s_target, .int s_first, .int s_second, .int s_field, .int s_head, .int s_next, .int s_many, .int s_rows, .int s_even])), (q_n, .inl (c_i, 160, .inl g_n))] sz) [(h_s, .inr (6, [.ref h_t, .ref q_n, .ref (adB u.1), .int u.2.1, .int u.2.2.1, .int u.2.2.2.1, .int u.2.2.2.2.1, .int u.2.2.2.2.2.1, .int u.2.2.2.2.2.2.1, .int u.2.2.2.2.2.2.2.1, .int u.2.2.2.2.2.2.2.2.1, .int u.2.2.2.2.2.2.2.2.2.1])), (q_n, .inl (c_i, 160, .inl u.2.2.2.2.2.2.2.2.2.2))]) (va_A [(h_s, .inr (6, [.ref h_t, .ref q_n, .ref (adB s_verb), .int s_target, .int s_first, .int s_second, .int s_field, .int s_head, .int s_next, .int s_many, .int s_rows, .int s_even])), (q_n, .inl (c_i, 160, .inl g_n))] sz)) 0 0 (va_A [(h_s, .inr (6, [.ref h_t, .ref q_n, .ref (adB s_verb), .int s_target, .int s_first, .int s_second, .int s_field, .int s_head, .int s_next, .int s_many, .int s_rows, .int s_even])), (q_n, .inl (c_i, 160, .inl g_n))] sz) := by
  refine Met.ofW (cc := prog_9_method_14_code) (maxL := 3) (ret := (some .boolean)) (by decide) rfl ?_
  intro p e s m args below meth c s₁ B hml hv
  obtain ⟨rfl, hsz, hP, hK, hD0, hN⟩ := hv
  have hx := B.exec
  have hb := B.bytes
  have hr := B.returns
  have htw : ∀ w ∈ px_all, w.before _ s = true := fun w h => atoms_spec (ws := px_s173) B.pre w (List.mem_cons_of_mem _ h)
  have hown : s.vm.findClass "MatroidDesk$Statement" = some m.cls := findClass_of_methodNamed B.named
  have hlocks := B.notSynchronized
  subst hsz
  have hD := hD0.self (sz := s.heap.size)
  generalize hAe : va_A [(h_s, .inr (6, [.ref h_t, .ref q_n, .ref (adB s_verb), .int s_target, .int s_first, .int s_second, .int s_field, .int s_head, .int s_next, .int s_many, .int s_rows, .int s_even])), (q_n, .inl (c_i, 160, .inl g_n))] s.heap.size = A at hD ⊢
  have hA : ∀ q : Nat, s.heap.size ≤ q → A q := fun q h => by rw [← hAe]; exact Or.inr h
  have hS : va_S A s.heap s.heap [] := va_S.rf
  have hP : va_P (dC, dI) vwCl [(h_s, .inr (6, [.ref h_t, .ref q_n, .ref (adB s_verb), .int s_target, .int s_first, .int s_second, .int s_field, .int s_head, .int s_next, .int s_many, .int s_rows, .int s_even])), (q_n, .inl (c_i, 160, .inl g_n))] s.heap := hP
  have hl := lv_entry ([.ref h_s, .int a1x]) (n := 3) (Nat.le_of_ble_eq_true rfl)
  rw [lg_entry_eq]
  generalize (lg_sl ([.ref h_s, .int a1x]) ++ List.replicate (3 - (lg_sl ([.ref h_s, .int a1x])).length) Slot.unset).toArray = ls at hl ⊢
  have hl : lv_has ls 3 [(0, .ref h_s), (1, .int a1x)] := hl
  generalize hQ : MQ _ _ _ _ _ _ _ = Q
  have S44 : ∀ (x1 : Int32) (x2 : Int32) (s_verb : Nat) (s_target : Int32) (s_first : Int32) (s_second : Int32) (s_field : Int32) (s_head : Int32) (s_next : Int32) (s_many : Int32) (s_rows : Int32) (s_even : Int32) (g_n : Nat → Int32) (H : Heap) (locs : List Loc) (ls : Array Slot), va_P (dC, dI) vwCl [(h_s, .inr (6, [.ref h_t, .ref q_n, .ref (adB s_verb), .int s_target, .int s_first, .int s_second, .int s_field, .int s_head, .int s_next, .int s_many, .int s_rows, .int s_even])), (q_n, .inl (c_i, 160, .inl g_n))] H → va_D A [(h_s, .inr (6, [.ref h_t, .ref q_n, .ref (adB s_verb), .int s_target, .int s_first, .int s_second, .int s_field, .int s_head, .int s_next, .int s_many, .int s_rows, .int s_even])), (q_n, .inl (c_i, 160, .inl g_n))] → va_S A s.heap H locs → lv_has ls 3 [(0, .ref h_s), (1, .int x1), (2, .int x2)] → w173_L44 post x1 x2 s_verb s_target s_first s_second s_field s_head s_next s_many s_rows s_even g_n → W p l e (headSpec px_s173 ({ frames := 0, cells := 0, slots := 0, locals := 0 })).room s m ([.ref h_s, .int a1x]).toArray below meth c H locs 0 0 Q (F0 m 44 ls []) := by
    intro x1 x2 s_verb s_target s_first s_second s_field s_head s_next s_many s_rows s_even g_n H locs ls hP hD hS hl hw
    unfold w173_L44 at hw
    refine lv_iconst (v := 1) hx hb px_d173_44 (by decide) ?_
    obtain ⟨hz9, hw⟩ := hw
    rw [← hQ]
    exact W.zret (v := 1) hx hb hr hz9 (fun t ht hW => ⟨⟨1, (s_verb, s_target, s_first, s_second, s_field, s_head, s_next, s_many, s_rows, s_even, g_n), rfl, hw, by rw [ht]; exact hP, va_K.moved hW.alike hK, hD⟩, hS.F ht⟩) hS.2.2 px_d173_45
  have S36 : ∀ (x1 : Int32) (x2 : Int32) (s_verb : Nat) (s_target : Int32) (s_first : Int32) (s_second : Int32) (s_field : Int32) (s_head : Int32) (s_next : Int32) (s_many : Int32) (s_rows : Int32) (s_even : Int32) (g_n : Nat → Int32) (H : Heap) (locs : List Loc) (ls : Array Slot), va_P (dC, dI) vwCl [(h_s, .inr (6, [.ref h_t, .ref q_n, .ref (adB s_verb), .int s_target, .int s_first, .int s_second, .int s_field, .int s_head, .int s_next, .int s_many, .int s_rows, .int s_even])), (q_n, .inl (c_i, 160, .inl g_n))] H → va_D A [(h_s, .inr (6, [.ref h_t, .ref q_n, .ref (adB s_verb), .int s_target, .int s_first, .int s_second, .int s_field, .int s_head, .int s_next, .int s_many, .int s_rows, .int s_even])), (q_n, .inl (c_i, 160, .inl g_n))] → va_S A s.heap H locs → lv_has ls 3 [(0, .ref h_s), (1, .int x1), (2, .int x2)] → w173_L36 post x1 x2 s_verb s_target s_first s_second s_field s_head s_next s_many s_rows s_even g_n → W p l e (headSpec px_s173 ({ frames := 0, cells := 0, slots := 0, locals := 0 })).room s m ([.ref h_s, .int a1x]).toArray below meth c H locs 0 0 Q (F0 m 36 ls []) := by
    intro x1 x2 s_verb s_target s_first s_second s_field s_head s_next s_many s_rows s_even g_n H locs ls hP hD hS hl hw
    unfold w173_L36 at hw
    refine lv_iconst (v := 0) hx hb px_d173_36 (by decide) ?_
    obtain ⟨hz9, hw⟩ := hw
    rw [← hQ]
    exact W.zret (v := 0) hx hb hr hz9 (fun t ht hW => ⟨⟨0, (s_verb, s_target, s_first, s_second, s_field, s_head, s_next, s_many, s_rows, s_even, g_n), rfl, hw, by rw [ht]; exact hP, va_K.moved hW.alike hK, hD⟩, hS.F ht⟩) hS.2.2 px_d173_37
  have S2 : ∀ (k2 : Nat) (x1 : Int32) (x2 : Int32) (s_verb : Nat) (s_target : Int32) (s_first : Int32) (s_second : Int32) (s_field : Int32) (s_head : Int32) (s_next : Int32) (s_many : Int32) (s_rows : Int32) (s_even : Int32) (g_n : Nat → Int32) (H : Heap) (locs : List Loc) (ls : Array Slot), va_P (dC, dI) vwCl [(h_s, .inr (6, [.ref h_t, .ref q_n, .ref (adB s_verb), .int s_target, .int s_first, .int s_second, .int s_field, .int s_head, .int s_next, .int s_many, .int s_rows, .int s_even])), (q_n, .inl (c_i, 160, .inl g_n))] H → va_D A [(h_s, .inr (6, [.ref h_t, .ref q_n, .ref (adB s_verb), .int s_target, .int s_first, .int s_second, .int s_field, .int s_head, .int s_next, .int s_many, .int s_rows, .int s_even])), (q_n, .inl (c_i, 160, .inl g_n))] → va_S A s.heap H locs → lv_has ls 3 [(0, .ref h_s), (1, .int x1), (2, .int x2)] → w173_L2 post k2 x1 x2 s_verb s_target s_first s_second s_field s_head s_next s_many s_rows s_even g_n → W p l e (headSpec px_s173 ({ frames := 0, cells := 0, slots := 0, locals := 0 })).room s m ([.ref h_s, .int a1x]).toArray below meth c H locs 0 0 Q (F0 m 2 ls []) := by
    intro k2
    induction k2 with
    | zero => intro x1 x2 s_verb s_target s_first s_second s_field s_head s_next s_many s_rows s_even g_n H locs ls hP hD hS hl hw; exact False.elim hw
    | succ k2 ih2 =>
      intro x1 x2 s_verb s_target s_first s_second s_field s_head s_next s_many s_rows s_even g_n H locs ls hP hD hS hl hw
      unfold w173_L2 at hw
      refine lv_iload_n hx hb px_d173_2 rfl (lv_at hl 2 rfl) ?_
      refine lv_aload_n hx hb px_d173_3 rfl (lv_at hl 0 rfl) ?_
      refine va_get (D := (dC, dI)) (ci := 6) (v := .int s_many) (C := "MatroidDesk$Statement") (T := px_T6) (N := 12) hx hb htw px_in6 hown hK hP 0 rfl rfl 9 (by decide) (htw _ px_w858) (fun _ h9 => h9) rfl px_d173_4 ?_
      refine lv_icmp_ge (tgt := 44) hx hb px_d173_7 (by decide) (fun c7 => ?_) (fun c7 => ?_)
      · have hw := hw.1 c7
        exact S44 x1 x2 s_verb s_target s_first s_second s_field s_head s_next s_many s_rows s_even g_n H locs ls hP hD hS (lv_sub hl [0, 1, 2] rfl) hw
      · have hw := hw.2 c7
        refine lv_iload_n hx hb px_d173_10 rfl (lv_at hl 2 rfl) ?_
        refine lv_sipush (v := 160) hx hb px_d173_11 (by decide) ?_
        refine lv_icmp_ge (tgt := 44) hx hb px_d173_14 (by decide) (fun c14 => ?_) (fun c14 => ?_)
        · have hw := hw.1 c14
          exact S44 x1 x2 s_verb s_target s_first s_second s_field s_head s_next s_many s_rows s_even g_n H locs ls hP hD hS (lv_sub hl [0, 1, 2] rfl) hw
        · have hw := hw.2 c14
          refine lv_aload_n hx hb px_d173_17 rfl (lv_at hl 0 rfl) ?_
          refine va_get (D := (dC, dI)) (ci := 6) (v := .ref q_n) (C := "MatroidDesk$Statement") (T := px_T6) (N := 12) hx hb htw px_in6 hown hK hP 0 rfl rfl 1 (by decide) (htw _ px_w226) (fun _ h9 => h9) rfl px_d173_18 ?_
          refine lv_iload_n hx hb px_d173_21 rfl (lv_at hl 2 rfl) ?_
          obtain ⟨hi22, hw⟩ := hw
          refine va_iald hx hb hK hP 1 0 rfl rfl hi22 px_d173_22 ?_
          refine lv_if_lt (tgt := 36) hx hb px_d173_23 (by decide) (fun c23 => ?_) (fun c23 => ?_)
          · have hw := hw.1 c23
            exact S36 x1 x2 s_verb s_target s_first s_second s_field s_head s_next s_many s_rows s_even g_n H locs ls hP hD hS (lv_sub hl [0, 1, 2] rfl) hw
          · have hw := hw.2 c23
            refine lv_aload_n hx hb px_d173_26 rfl (lv_at hl 0 rfl) ?_
            refine va_get (D := (dC, dI)) (ci := 6) (v := .ref q_n) (C := "MatroidDesk$Statement") (T := px_T6) (N := 12) hx hb htw px_in6 hown hK hP 0 rfl rfl 1 (by decide) (htw _ px_w226) (fun _ h9 => h9) rfl px_d173_27 ?_
            refine lv_iload_n hx hb px_d173_30 rfl (lv_at hl 2 rfl) ?_
            obtain ⟨hi31, hw⟩ := hw
            refine va_iald hx hb hK hP 1 0 rfl rfl hi31 px_d173_31 ?_
            refine lv_iload_n hx hb px_d173_32 rfl (lv_at hl 1 rfl) ?_
            refine lv_icmp_lt (tgt := 38) hx hb px_d173_33 (by decide) (fun c33 => ?_) (fun c33 => ?_)
            · have hw := hw.1 c33
              obtain ⟨z1, ez1⟩ : ∃ y : Int32, y = x2 + 1 := ⟨_, rfl⟩
              have hw := hw z1 ez1
              refine lv_iinc (v := z1) (lv' := [(2, .int z1), (0, .ref h_s), (1, .int x1)]) hx hb px_d173_38 hl (k := 2) rfl (by rw [ez1]; rfl) (by decide) rfl (fun ls hl => ?_)
              refine lv_goto (tgt := 2) hx hb px_d173_41 (by decide) ?_
              exact ih2 x1 z1 s_verb s_target s_first s_second s_field s_head s_next s_many s_rows s_even g_n H locs ls hP hD hS (lv_sub hl [1, 2, 0] rfl) hw
            · have hw := hw.2 c33
              exact S36 x1 x2 s_verb s_target s_first s_second s_field s_head s_next s_many s_rows s_even g_n H locs ls hP hD hS (lv_sub hl [0, 1, 2] rfl) hw
  unfold w173_wp at hw
  have hS0 := hS
  obtain ⟨H, hH9⟩ : ∃ z, z = s.heap := ⟨_, rfl⟩
  have hP : va_P (dC, dI) vwCl [(h_s, .inr (6, [.ref h_t, .ref q_n, .ref (adB s_verb), .int s_target, .int s_first, .int s_second, .int s_field, .int s_head, .int s_next, .int s_many, .int s_rows, .int s_even])), (q_n, .inl (c_i, 160, .inl g_n))] H := by rw [hH9]; exact hP
  obtain ⟨locs, hlo9⟩ : ∃ z : List Loc, z = [] := ⟨_, rfl⟩
  have hS : va_S A s.heap H locs := by rw [hH9, hlo9]; exact hS
  suffices hG : W p l e (headSpec px_s173 ({ frames := 0, cells := 0, slots := 0, locals := 0 })).room s m ([.ref h_s, .int a1x]).toArray below meth c H locs 0 0 Q (F0 m 0 ls []) by rw [hH9, hlo9] at hG; exact hG
  refine lv_iconst (v := 0) hx hb px_d173_0 (by decide) ?_
  refine lv_istore_n (lv' := [(2, .int 0), (0, .ref h_s), (1, .int a1x)]) hx hb px_d173_1 rfl hl (by decide) rfl (fun ls hl => ?_)
  obtain ⟨k9, hw⟩ := hw
  exact S2 k9 a1x 0 s_verb s_target s_first s_second s_field s_head s_next s_many s_rows s_even g_n H locs ls hP hD hS (lv_sub hl [1, 2, 0] rfl) hw

/-! MatroidDesk$Statement.rises()Z -/
def w174_L42 (post : Int32 → Nat → Int32 → Int32 → Int32 → Int32 → Int32 → Int32 → Int32 → Int32 → Int32 → (Nat → Int32) → Prop) (x1 : Int32) (s_verb : Nat) (s_target : Int32) (s_first : Int32) (s_second : Int32) (s_field : Int32) (s_head : Int32) (s_next : Int32) (s_many : Int32) (s_rows : Int32) (s_even : Int32) (g_n : Nat → Int32) : Prop := narrow .boolean (.int 1) = .int 1 ∧ post 1 s_verb s_target s_first s_second s_field s_head s_next s_many s_rows s_even g_n
def w174_L2 (post : Int32 → Nat → Int32 → Int32 → Int32 → Int32 → Int32 → Int32 → Int32 → Int32 → Int32 → (Nat → Int32) → Prop) : Nat → Int32 → Nat → Int32 → Int32 → Int32 → Int32 → Int32 → Int32 → Int32 → Int32 → Int32 → (Nat → Int32) → Prop
  | 0 => fun _ _ _ _ _ _ _ _ _ _ _ _ => False
  | k + 1 => fun x1 s_verb s_target s_first s_second s_field s_head s_next s_many s_rows s_even g_n => (s_many ≤ x1 → w174_L42 post x1 s_verb s_target s_first s_second s_field s_head s_next s_many s_rows s_even g_n) ∧ (¬ s_many ≤ x1 → (160 ≤ x1 → w174_L42 post x1 s_verb s_target s_first s_second s_field s_head s_next s_many s_rows s_even g_n) ∧ (¬ 160 ≤ x1 → vp_in x1 160 ∧ (vp_in (x1 - 1) 160 ∧ (((g_n (Int32.toNatClampNeg (x1 - 1))) < (g_n (Int32.toNatClampNeg x1)) → ∀ z1 : Int32, z1 = x1 + 1 → (w174_L2 post k) z1 s_verb s_target s_first s_second s_field s_head s_next s_many s_rows s_even g_n) ∧ (¬ (g_n (Int32.toNatClampNeg (x1 - 1))) < (g_n (Int32.toNatClampNeg x1)) → narrow .boolean (.int 0) = .int 0 ∧ post 0 s_verb s_target s_first s_second s_field s_head s_next s_many s_rows s_even g_n)))))
def w174_wp (post : Int32 → Nat → Int32 → Int32 → Int32 → Int32 → Int32 → Int32 → Int32 → Int32 → Int32 → (Nat → Int32) → Prop) (s_verb : Nat) (s_target : Int32) (s_first : Int32) (s_second : Int32) (s_field : Int32) (s_head : Int32) (s_next : Int32) (s_many : Int32) (s_rows : Int32) (s_even : Int32) (g_n : Nat → Int32) : Prop := ∃ j2, w174_L2 post j2 1 s_verb s_target s_first s_second s_field s_head s_next s_many s_rows s_even g_n
set_option maxHeartbeats 8000000 in
set_option maxRecDepth 100000 in
theorem w174_met (l : Launch) (dC : Nat → ClassId) (dI : Nat → Nat → Nat) (sz : Nat) (adB : Nat → Nat) (h_s : Nat) (h_t : Nat) (q_n : Nat) (c_i : ClassId) (s_verb : Nat) (s_target : Int32) (s_first : Int32) (s_second : Int32) (s_field : Int32) (s_head : Int32) (s_next : Int32) (s_many : Int32) (s_rows : Int32) (s_even : Int32) (g_n : Nat → Int32) (post : Int32 → Nat → Int32 → Int32 → Int32 → Int32 → Int32 → Int32 → Int32 → Int32 → Int32 → (Nat → Int32) → Prop) (hw : w174_wp post s_verb s_target s_first s_second s_field s_head s_next s_many s_rows s_even g_n) : Met l px_y174 px_s174 ({ frames := 0, cells := 0, slots := 0, locals := 0 }) (va_Pc [.ref h_s] (fun U => U.heap.size = sz ∧ va_P (dC, dI) vwCl [(h_s, .inr (6, [.ref h_t, .ref q_n, .ref (adB s_verb), .int s_target, .int s_first, .int s_second, .int s_field, .int s_head, .int s_next, .int s_many, .int s_rows, .int s_even])), (q_n, .inl (c_i, 160, .inl g_n))] U.heap ∧ va_K (dC, dI) vwCl [(c_i, .int)] U ∧ va_D (fun _ => True) [(h_s, .inr (6, [.ref h_t, .ref q_n, .ref (adB s_verb), .int s_target, .int s_first, .int s_second, .int s_field, .int s_head, .int s_next, .int s_many, .int s_rows, .int s_even])), (q_n, .inl (c_i, 160, .inl g_n))] ∧ px_N U)) (va_Qi (fun (r : Int32) (u : Nat × Int32 × Int32 × Int32 × Int32 × Int32 × Int32 × Int32 × Int32 × Int32 × (Nat → Int32)) => post r u.1 u.2.1 u.2.2.1 u.2.2.2.1 u.2.2.2.2.1 u.2.2.2.2.2.1 u.2.2.2.2.2.2.1 u.2.2.2.2.2.2.2.1 u.2.2.2.2.2.2.2.2.1 u.2.2.2.2.2.2.2.2.2.1 u.2.2.2.2.2.2.2.2.2.2) (fun (u : Nat × Int32 × Int32 × Int32 × Int32 × Int32 × Int32 × Int32 × Int32 × Int32 × (Nat → Int32)) (t : State) => va_P (dC, dI) vwCl [(h_s, .inr (6, [.ref h_t, .ref q_n, .ref (adB u.1), .int u.2.1, .int u.2.2.1, .int u.2.2.2.1, .int u.2.2.2.2.1, .int u.2.2.2.2.2.1, .int u.2.2.2.2.2.2.1, .int u.2.2.2.2.2.2.2.1, .int u.2.2.2.2.2.2.2.2.1, .int u.2.2.2.2.2.2.2.2.2.1])), (q_n, .inl (c_i, 160, .inl u.2.2.2.2.2.2.2.2.2.2))] t.heap ∧ va_K (dC, dI) vwCl [(c_i, .int)] t ∧ va_D (va_A [(h_s, .inr (6, [.ref h_t, .ref q_n, .ref (adB s_verb), .int s_target, .int s_first, .int s_second, .int s_field, .int s_head, .int s_next, .int s_many, .int s_rows, .int s_even])), (q_n, .inl (c_i, 160, .inl g_n))] sz) [(h_s, .inr (6, [.ref h_t, .ref q_n, .ref (adB u.1), .int u.2.1, .int u.2.2.1, .int u.2.2.2.1, .int u.2.2.2.2.1, .int u.2.2.2.2.2.1, .int u.2.2.2.2.2.2.1, .int u.2.2.2.2.2.2.2.1, .int u.2.2.2.2.2.2.2.2.1, .int u.2.2.2.2.2.2.2.2.2.1])), (q_n, .inl (c_i, 160, .inl u.2.2.2.2.2.2.2.2.2.2))]) (va_A [(h_s, .inr (6, [.ref h_t, .ref q_n, .ref (adB s_verb), .int s_target, .int s_first, .int s_second, .int s_field, .int s_head, .int s_next, .int s_many, .int s_rows, .int s_even])), (q_n, .inl (c_i, 160, .inl g_n))] sz)) 0 0 (va_A [(h_s, .inr (6, [.ref h_t, .ref q_n, .ref (adB s_verb), .int s_target, .int s_first, .int s_second, .int s_field, .int s_head, .int s_next, .int s_many, .int s_rows, .int s_even])), (q_n, .inl (c_i, 160, .inl g_n))] sz) := by
  refine Met.ofW (cc := prog_9_method_15_code) (maxL := 2) (ret := (some .boolean)) (by decide) rfl ?_
  intro p e s m args below meth c s₁ B hml hv
  obtain ⟨rfl, hsz, hP, hK, hD0, hN⟩ := hv
  have hx := B.exec
  have hb := B.bytes
  have hr := B.returns
  have htw : ∀ w ∈ px_all, w.before _ s = true := fun w h => atoms_spec (ws := px_s174) B.pre w (List.mem_cons_of_mem _ h)
  have hown : s.vm.findClass "MatroidDesk$Statement" = some m.cls := findClass_of_methodNamed B.named
  have hlocks := B.notSynchronized
  subst hsz
  have hD := hD0.self (sz := s.heap.size)
  generalize hAe : va_A [(h_s, .inr (6, [.ref h_t, .ref q_n, .ref (adB s_verb), .int s_target, .int s_first, .int s_second, .int s_field, .int s_head, .int s_next, .int s_many, .int s_rows, .int s_even])), (q_n, .inl (c_i, 160, .inl g_n))] s.heap.size = A at hD ⊢
  have hA : ∀ q : Nat, s.heap.size ≤ q → A q := fun q h => by rw [← hAe]; exact Or.inr h
  have hS : va_S A s.heap s.heap [] := va_S.rf
  have hP : va_P (dC, dI) vwCl [(h_s, .inr (6, [.ref h_t, .ref q_n, .ref (adB s_verb), .int s_target, .int s_first, .int s_second, .int s_field, .int s_head, .int s_next, .int s_many, .int s_rows, .int s_even])), (q_n, .inl (c_i, 160, .inl g_n))] s.heap := hP
  have hl := lv_entry ([.ref h_s]) (n := 2) (Nat.le_of_ble_eq_true rfl)
  rw [lg_entry_eq]
  generalize (lg_sl ([.ref h_s]) ++ List.replicate (2 - (lg_sl ([.ref h_s])).length) Slot.unset).toArray = ls at hl ⊢
  have hl : lv_has ls 2 [(0, .ref h_s)] := hl
  generalize hQ : MQ _ _ _ _ _ _ _ = Q
  have S42 : ∀ (x1 : Int32) (s_verb : Nat) (s_target : Int32) (s_first : Int32) (s_second : Int32) (s_field : Int32) (s_head : Int32) (s_next : Int32) (s_many : Int32) (s_rows : Int32) (s_even : Int32) (g_n : Nat → Int32) (H : Heap) (locs : List Loc) (ls : Array Slot), va_P (dC, dI) vwCl [(h_s, .inr (6, [.ref h_t, .ref q_n, .ref (adB s_verb), .int s_target, .int s_first, .int s_second, .int s_field, .int s_head, .int s_next, .int s_many, .int s_rows, .int s_even])), (q_n, .inl (c_i, 160, .inl g_n))] H → va_D A [(h_s, .inr (6, [.ref h_t, .ref q_n, .ref (adB s_verb), .int s_target, .int s_first, .int s_second, .int s_field, .int s_head, .int s_next, .int s_many, .int s_rows, .int s_even])), (q_n, .inl (c_i, 160, .inl g_n))] → va_S A s.heap H locs → lv_has ls 2 [(0, .ref h_s), (1, .int x1)] → w174_L42 post x1 s_verb s_target s_first s_second s_field s_head s_next s_many s_rows s_even g_n → W p l e (headSpec px_s174 ({ frames := 0, cells := 0, slots := 0, locals := 0 })).room s m ([.ref h_s]).toArray below meth c H locs 0 0 Q (F0 m 42 ls []) := by
    intro x1 s_verb s_target s_first s_second s_field s_head s_next s_many s_rows s_even g_n H locs ls hP hD hS hl hw
    unfold w174_L42 at hw
    refine lv_iconst (v := 1) hx hb px_d174_42 (by decide) ?_
    obtain ⟨hz9, hw⟩ := hw
    rw [← hQ]
    exact W.zret (v := 1) hx hb hr hz9 (fun t ht hW => ⟨⟨1, (s_verb, s_target, s_first, s_second, s_field, s_head, s_next, s_many, s_rows, s_even, g_n), rfl, hw, by rw [ht]; exact hP, va_K.moved hW.alike hK, hD⟩, hS.F ht⟩) hS.2.2 px_d174_43
  have S2 : ∀ (k2 : Nat) (x1 : Int32) (s_verb : Nat) (s_target : Int32) (s_first : Int32) (s_second : Int32) (s_field : Int32) (s_head : Int32) (s_next : Int32) (s_many : Int32) (s_rows : Int32) (s_even : Int32) (g_n : Nat → Int32) (H : Heap) (locs : List Loc) (ls : Array Slot), va_P (dC, dI) vwCl [(h_s, .inr (6, [.ref h_t, .ref q_n, .ref (adB s_verb), .int s_target, .int s_first, .int s_second, .int s_field, .int s_head, .int s_next, .int s_many, .int s_rows, .int s_even])), (q_n, .inl (c_i, 160, .inl g_n))] H → va_D A [(h_s, .inr (6, [.ref h_t, .ref q_n, .ref (adB s_verb), .int s_target, .int s_first, .int s_second, .int s_field, .int s_head, .int s_next, .int s_many, .int s_rows, .int s_even])), (q_n, .inl (c_i, 160, .inl g_n))] → va_S A s.heap H locs → lv_has ls 2 [(0, .ref h_s), (1, .int x1)] → w174_L2 post k2 x1 s_verb s_target s_first s_second s_field s_head s_next s_many s_rows s_even g_n → W p l e (headSpec px_s174 ({ frames := 0, cells := 0, slots := 0, locals := 0 })).room s m ([.ref h_s]).toArray below meth c H locs 0 0 Q (F0 m 2 ls []) := by
    intro k2
    induction k2 with
    | zero => intro x1 s_verb s_target s_first s_second s_field s_head s_next s_many s_rows s_even g_n H locs ls hP hD hS hl hw; exact False.elim hw
    | succ k2 ih2 =>
      intro x1 s_verb s_target s_first s_second s_field s_head s_next s_many s_rows s_even g_n H locs ls hP hD hS hl hw
      unfold w174_L2 at hw
      refine lv_iload_n hx hb px_d174_2 rfl (lv_at hl 1 rfl) ?_
      refine lv_aload_n hx hb px_d174_3 rfl (lv_at hl 0 rfl) ?_
      refine va_get (D := (dC, dI)) (ci := 6) (v := .int s_many) (C := "MatroidDesk$Statement") (T := px_T6) (N := 12) hx hb htw px_in6 hown hK hP 0 rfl rfl 9 (by decide) (htw _ px_w858) (fun _ h9 => h9) rfl px_d174_4 ?_
      refine lv_icmp_ge (tgt := 42) hx hb px_d174_7 (by decide) (fun c7 => ?_) (fun c7 => ?_)
      · have hw := hw.1 c7
        exact S42 x1 s_verb s_target s_first s_second s_field s_head s_next s_many s_rows s_even g_n H locs ls hP hD hS (lv_sub hl [0, 1] rfl) hw
      · have hw := hw.2 c7
        refine lv_iload_n hx hb px_d174_10 rfl (lv_at hl 1 rfl) ?_
        refine lv_sipush (v := 160) hx hb px_d174_11 (by decide) ?_
        refine lv_icmp_ge (tgt := 42) hx hb px_d174_14 (by decide) (fun c14 => ?_) (fun c14 => ?_)
        · have hw := hw.1 c14
          exact S42 x1 s_verb s_target s_first s_second s_field s_head s_next s_many s_rows s_even g_n H locs ls hP hD hS (lv_sub hl [0, 1] rfl) hw
        · have hw := hw.2 c14
          refine lv_aload_n hx hb px_d174_17 rfl (lv_at hl 0 rfl) ?_
          refine va_get (D := (dC, dI)) (ci := 6) (v := .ref q_n) (C := "MatroidDesk$Statement") (T := px_T6) (N := 12) hx hb htw px_in6 hown hK hP 0 rfl rfl 1 (by decide) (htw _ px_w226) (fun _ h9 => h9) rfl px_d174_18 ?_
          refine lv_iload_n hx hb px_d174_21 rfl (lv_at hl 1 rfl) ?_
          obtain ⟨hi22, hw⟩ := hw
          refine va_iald hx hb hK hP 1 0 rfl rfl hi22 px_d174_22 ?_
          refine lv_aload_n hx hb px_d174_23 rfl (lv_at hl 0 rfl) ?_
          refine va_get (D := (dC, dI)) (ci := 6) (v := .ref q_n) (C := "MatroidDesk$Statement") (T := px_T6) (N := 12) hx hb htw px_in6 hown hK hP 0 rfl rfl 1 (by decide) (htw _ px_w226) (fun _ h9 => h9) rfl px_d174_24 ?_
          refine lv_iload_n hx hb px_d174_27 rfl (lv_at hl 1 rfl) ?_
          refine lv_iconst (v := 1) hx hb px_d174_28 (by decide) ?_
          refine lv_isub hx hb px_d174_29 ?_
          obtain ⟨hi30, hw⟩ := hw
          refine va_iald hx hb hK hP 1 0 rfl rfl hi30 px_d174_30 ?_
          refine lv_icmp_gt (tgt := 36) hx hb px_d174_31 (by decide) (fun c31 => ?_) (fun c31 => ?_)
          · have hw := hw.1 c31
            obtain ⟨z1, ez1⟩ : ∃ y : Int32, y = x1 + 1 := ⟨_, rfl⟩
            have hw := hw z1 ez1
            refine lv_iinc (v := z1) (lv' := [(1, .int z1), (0, .ref h_s)]) hx hb px_d174_36 hl (k := 1) rfl (by rw [ez1]; rfl) (by decide) rfl (fun ls hl => ?_)
            refine lv_goto (tgt := 2) hx hb px_d174_39 (by decide) ?_
            exact ih2 z1 s_verb s_target s_first s_second s_field s_head s_next s_many s_rows s_even g_n H locs ls hP hD hS (lv_sub hl [1, 0] rfl) hw
          · have hw := hw.2 c31
            refine lv_iconst (v := 0) hx hb px_d174_34 (by decide) ?_
            obtain ⟨hz9, hw⟩ := hw
            rw [← hQ]
            exact W.zret (v := 0) hx hb hr hz9 (fun t ht hW => ⟨⟨0, (s_verb, s_target, s_first, s_second, s_field, s_head, s_next, s_many, s_rows, s_even, g_n), rfl, hw, by rw [ht]; exact hP, va_K.moved hW.alike hK, hD⟩, hS.F ht⟩) hS.2.2 px_d174_35
  unfold w174_wp at hw
  have hS0 := hS
  obtain ⟨H, hH9⟩ : ∃ z, z = s.heap := ⟨_, rfl⟩
  have hP : va_P (dC, dI) vwCl [(h_s, .inr (6, [.ref h_t, .ref q_n, .ref (adB s_verb), .int s_target, .int s_first, .int s_second, .int s_field, .int s_head, .int s_next, .int s_many, .int s_rows, .int s_even])), (q_n, .inl (c_i, 160, .inl g_n))] H := by rw [hH9]; exact hP
  obtain ⟨locs, hlo9⟩ : ∃ z : List Loc, z = [] := ⟨_, rfl⟩
  have hS : va_S A s.heap H locs := by rw [hH9, hlo9]; exact hS
  suffices hG : W p l e (headSpec px_s174 ({ frames := 0, cells := 0, slots := 0, locals := 0 })).room s m ([.ref h_s]).toArray below meth c H locs 0 0 Q (F0 m 0 ls []) by rw [hH9, hlo9] at hG; exact hG
  refine lv_iconst (v := 1) hx hb px_d174_0 (by decide) ?_
  refine lv_istore_n (lv' := [(1, .int 1), (0, .ref h_s)]) hx hb px_d174_1 rfl hl (by decide) rfl (fun ls hl => ?_)
  obtain ⟨k9, hw⟩ := hw
  exact S2 k9 1 s_verb s_target s_first s_second s_field s_head s_next s_many s_rows s_even g_n H locs ls hP hD hS (lv_sub hl [1, 0] rfl) hw

/-! MatroidDesk$Statement.asSet(I)I -/
def w257_L34 (post : Int32 → Nat → Int32 → Int32 → Int32 → Int32 → Int32 → Int32 → Int32 → Int32 → Int32 → (Nat → Int32) → Prop) (x1 : Int32) (x2 : Int32) (x3 : Int32) (s_verb : Nat) (s_target : Int32) (s_first : Int32) (s_second : Int32) (s_field : Int32) (s_head : Int32) (s_next : Int32) (s_many : Int32) (s_rows : Int32) (s_even : Int32) (g_n : Nat → Int32) : Prop := post x2 s_verb s_target s_first s_second s_field s_head s_next s_many s_rows s_even g_n
def w257_L4 (post : Int32 → Nat → Int32 → Int32 → Int32 → Int32 → Int32 → Int32 → Int32 → Int32 → Int32 → (Nat → Int32) → Prop) : Nat → Int32 → Int32 → Int32 → Nat → Int32 → Int32 → Int32 → Int32 → Int32 → Int32 → Int32 → Int32 → Int32 → (Nat → Int32) → Prop
  | 0 => fun _ _ _ _ _ _ _ _ _ _ _ _ _ _ => False
  | k + 1 => fun x1 x2 x3 s_verb s_target s_first s_second s_field s_head s_next s_many s_rows s_even g_n => (s_many ≤ x3 → w257_L34 post x1 x2 x3 s_verb s_target s_first s_second s_field s_head s_next s_many s_rows s_even g_n) ∧ (¬ s_many ≤ x3 → (x1 ≤ x3 → w257_L34 post x1 x2 x3 s_verb s_target s_first s_second s_field s_head s_next s_many s_rows s_even g_n) ∧ (¬ x1 ≤ x3 → vp_in x3 160 ∧ (∀ z1 : Int32, z1 = x2 ||| ((1 : Int32) <<< ((g_n (Int32.toNatClampNeg x3)) &&& 31)) → ∀ z2 : Int32, z2 = x3 + 1 → (w257_L4 post k) x1 z1 z2 s_verb s_target s_first s_second s_field s_head s_next s_many s_rows s_even g_n)))
def w257_wp (post : Int32 → Nat → Int32 → Int32 → Int32 → Int32 → Int32 → Int32 → Int32 → Int32 → Int32 → (Nat → Int32) → Prop) (a1x : Int32) (s_verb : Nat) (s_target : Int32) (s_first : Int32) (s_second : Int32) (s_field : Int32) (s_head : Int32) (s_next : Int32) (s_many : Int32) (s_rows : Int32) (s_even : Int32) (g_n : Nat → Int32) : Prop := ∃ j4, w257_L4 post j4 a1x 0 0 s_verb s_target s_first s_second s_field s_head s_next s_many s_rows s_even g_n
set_option maxHeartbeats 8000000 in
set_option maxRecDepth 100000 in
theorem w257_met (l : Launch) (dC : Nat → ClassId) (dI : Nat → Nat → Nat) (sz : Nat) (adB : Nat → Nat) (h_s : Nat) (h_t : Nat) (q_n : Nat) (c_i : ClassId) (a1x : Int32) (s_verb : Nat) (s_target : Int32) (s_first : Int32) (s_second : Int32) (s_field : Int32) (s_head : Int32) (s_next : Int32) (s_many : Int32) (s_rows : Int32) (s_even : Int32) (g_n : Nat → Int32) (post : Int32 → Nat → Int32 → Int32 → Int32 → Int32 → Int32 → Int32 → Int32 → Int32 → Int32 → (Nat → Int32) → Prop) (hw : w257_wp post a1x s_verb s_target s_first s_second s_field s_head s_next s_many s_rows s_even g_n) : Met l px_y257 px_s257 ({ frames := 0, cells := 0, slots := 0, locals := 0 }) (va_Pc [.ref h_s, .int a1x] (fun U => U.heap.size = sz ∧ va_P (dC, dI) vwCl [(h_s, .inr (6, [.ref h_t, .ref q_n, .ref (adB s_verb), .int s_target, .int s_first, .int s_second, .int s_field, .int s_head, .int s_next, .int s_many, .int s_rows, .int s_even])), (q_n, .inl (c_i, 160, .inl g_n))] U.heap ∧ va_K (dC, dI) vwCl [(c_i, .int)] U ∧ va_D (fun _ => True) [(h_s, .inr (6, [.ref h_t, .ref q_n, .ref (adB s_verb), .int s_target, .int s_first, .int s_second, .int s_field, .int s_head, .int s_next, .int s_many, .int s_rows, .int s_even])), (q_n, .inl (c_i, 160, .inl g_n))] ∧ px_N U)) (va_Qi (fun (r : Int32) (u : Nat × Int32 × Int32 × Int32 × Int32 × Int32 × Int32 × Int32 × Int32 × Int32 × (Nat → Int32)) => post r u.1 u.2.1 u.2.2.1 u.2.2.2.1 u.2.2.2.2.1 u.2.2.2.2.2.1 u.2.2.2.2.2.2.1 u.2.2.2.2.2.2.2.1 u.2.2.2.2.2.2.2.2.1 u.2.2.2.2.2.2.2.2.2.1 u.2.2.2.2.2.2.2.2.2.2) (fun (u : Nat × Int32 × Int32 × Int32 × Int32 × Int32 × Int32 × Int32 × Int32 × Int32 × (Nat → Int32)) (t : State) => va_P (dC, dI) vwCl [(h_s, .inr (6, [.ref h_t, .ref q_n, .ref (adB u.1), .int u.2.1, .int u.2.2.1, .int u.2.2.2.1, .int u.2.2.2.2.1, .int u.2.2.2.2.2.1, .int u.2.2.2.2.2.2.1, .int u.2.2.2.2.2.2.2.1, .int u.2.2.2.2.2.2.2.2.1, .int u.2.2.2.2.2.2.2.2.2.1])), (q_n, .inl (c_i, 160, .inl u.2.2.2.2.2.2.2.2.2.2))] t.heap ∧ va_K (dC, dI) vwCl [(c_i, .int)] t ∧ va_D (va_A [(h_s, .inr (6, [.ref h_t, .ref q_n, .ref (adB s_verb), .int s_target, .int s_first, .int s_second, .int s_field, .int s_head, .int s_next, .int s_many, .int s_rows, .int s_even])), (q_n, .inl (c_i, 160, .inl g_n))] sz) [(h_s, .inr (6, [.ref h_t, .ref q_n, .ref (adB u.1), .int u.2.1, .int u.2.2.1, .int u.2.2.2.1, .int u.2.2.2.2.1, .int u.2.2.2.2.2.1, .int u.2.2.2.2.2.2.1, .int u.2.2.2.2.2.2.2.1, .int u.2.2.2.2.2.2.2.2.1, .int u.2.2.2.2.2.2.2.2.2.1])), (q_n, .inl (c_i, 160, .inl u.2.2.2.2.2.2.2.2.2.2))]) (va_A [(h_s, .inr (6, [.ref h_t, .ref q_n, .ref (adB s_verb), .int s_target, .int s_first, .int s_second, .int s_field, .int s_head, .int s_next, .int s_many, .int s_rows, .int s_even])), (q_n, .inl (c_i, 160, .inl g_n))] sz)) 0 0 (va_A [(h_s, .inr (6, [.ref h_t, .ref q_n, .ref (adB s_verb), .int s_target, .int s_first, .int s_second, .int s_field, .int s_head, .int s_next, .int s_many, .int s_rows, .int s_even])), (q_n, .inl (c_i, 160, .inl g_n))] sz) := by
  refine Met.ofW (cc := prog_9_method_4_code) (maxL := 4) (ret := (some .int)) (by decide) rfl ?_
  intro p e s m args below meth c s₁ B hml hv
  obtain ⟨rfl, hsz, hP, hK, hD0, hN⟩ := hv
  have hx := B.exec
  have hb := B.bytes
  have hr := B.returns
  have htw : ∀ w ∈ px_all, w.before _ s = true := fun w h => atoms_spec (ws := px_s257) B.pre w (List.mem_cons_of_mem _ h)
  have hown : s.vm.findClass "MatroidDesk$Statement" = some m.cls := findClass_of_methodNamed B.named
  have hlocks := B.notSynchronized
  subst hsz
  have hD := hD0.self (sz := s.heap.size)
  generalize hAe : va_A [(h_s, .inr (6, [.ref h_t, .ref q_n, .ref (adB s_verb), .int s_target, .int s_first, .int s_second, .int s_field, .int s_head, .int s_next, .int s_many, .int s_rows, .int s_even])), (q_n, .inl (c_i, 160, .inl g_n))] s.heap.size = A at hD ⊢
  have hA : ∀ q : Nat, s.heap.size ≤ q → A q := fun q h => by rw [← hAe]; exact Or.inr h
  have hS : va_S A s.heap s.heap [] := va_S.rf
  have hP : va_P (dC, dI) vwCl [(h_s, .inr (6, [.ref h_t, .ref q_n, .ref (adB s_verb), .int s_target, .int s_first, .int s_second, .int s_field, .int s_head, .int s_next, .int s_many, .int s_rows, .int s_even])), (q_n, .inl (c_i, 160, .inl g_n))] s.heap := hP
  have hl := lv_entry ([.ref h_s, .int a1x]) (n := 4) (Nat.le_of_ble_eq_true rfl)
  rw [lg_entry_eq]
  generalize (lg_sl ([.ref h_s, .int a1x]) ++ List.replicate (4 - (lg_sl ([.ref h_s, .int a1x])).length) Slot.unset).toArray = ls at hl ⊢
  have hl : lv_has ls 4 [(0, .ref h_s), (1, .int a1x)] := hl
  generalize hQ : MQ _ _ _ _ _ _ _ = Q
  have S34 : ∀ (x1 : Int32) (x2 : Int32) (x3 : Int32) (s_verb : Nat) (s_target : Int32) (s_first : Int32) (s_second : Int32) (s_field : Int32) (s_head : Int32) (s_next : Int32) (s_many : Int32) (s_rows : Int32) (s_even : Int32) (g_n : Nat → Int32) (H : Heap) (locs : List Loc) (ls : Array Slot), va_P (dC, dI) vwCl [(h_s, .inr (6, [.ref h_t, .ref q_n, .ref (adB s_verb), .int s_target, .int s_first, .int s_second, .int s_field, .int s_head, .int s_next, .int s_many, .int s_rows, .int s_even])), (q_n, .inl (c_i, 160, .inl g_n))] H → va_D A [(h_s, .inr (6, [.ref h_t, .ref q_n, .ref (adB s_verb), .int s_target, .int s_first, .int s_second, .int s_field, .int s_head, .int s_next, .int s_many, .int s_rows, .int s_even])), (q_n, .inl (c_i, 160, .inl g_n))] → va_S A s.heap H locs → lv_has ls 4 [(0, .ref h_s), (1, .int x1), (2, .int x2), (3, .int x3)] → w257_L34 post x1 x2 x3 s_verb s_target s_first s_second s_field s_head s_next s_many s_rows s_even g_n → W p l e (headSpec px_s257 ({ frames := 0, cells := 0, slots := 0, locals := 0 })).room s m ([.ref h_s, .int a1x]).toArray below meth c H locs 0 0 Q (F0 m 34 ls []) := by
    intro x1 x2 x3 s_verb s_target s_first s_second s_field s_head s_next s_many s_rows s_even g_n H locs ls hP hD hS hl hw
    unfold w257_L34 at hw
    refine lv_iload_n hx hb px_d257_34 rfl (lv_at hl 2 rfl) ?_
    rw [← hQ]
    exact W.iret (v := x2) hx hb hr (fun t ht hW => ⟨⟨x2, (s_verb, s_target, s_first, s_second, s_field, s_head, s_next, s_many, s_rows, s_even, g_n), rfl, hw, by rw [ht]; exact hP, va_K.moved hW.alike hK, hD⟩, hS.F ht⟩) hS.2.2 px_d257_35
  have S4 : ∀ (k4 : Nat) (x1 : Int32) (x2 : Int32) (x3 : Int32) (s_verb : Nat) (s_target : Int32) (s_first : Int32) (s_second : Int32) (s_field : Int32) (s_head : Int32) (s_next : Int32) (s_many : Int32) (s_rows : Int32) (s_even : Int32) (g_n : Nat → Int32) (H : Heap) (locs : List Loc) (ls : Array Slot), va_P (dC, dI) vwCl [(h_s, .inr (6, [.ref h_t, .ref q_n, .ref (adB s_verb), .int s_target, .int s_first, .int s_second, .int s_field, .int s_head, .int s_next, .int s_many, .int s_rows, .int s_even])), (q_n, .inl (c_i, 160, .inl g_n))] H → va_D A [(h_s, .inr (6, [.ref h_t, .ref q_n, .ref (adB s_verb), .int s_target, .int s_first, .int s_second, .int s_field, .int s_head, .int s_next, .int s_many, .int s_rows, .int s_even])), (q_n, .inl (c_i, 160, .inl g_n))] → va_S A s.heap H locs → lv_has ls 4 [(0, .ref h_s), (1, .int x1), (2, .int x2), (3, .int x3)] → w257_L4 post k4 x1 x2 x3 s_verb s_target s_first s_second s_field s_head s_next s_many s_rows s_even g_n → W p l e (headSpec px_s257 ({ frames := 0, cells := 0, slots := 0, locals := 0 })).room s m ([.ref h_s, .int a1x]).toArray below meth c H locs 0 0 Q (F0 m 4 ls []) := by
    intro k4
    induction k4 with
    | zero => intro x1 x2 x3 s_verb s_target s_first s_second s_field s_head s_next s_many s_rows s_even g_n H locs ls hP hD hS hl hw; exact False.elim hw
    | succ k4 ih4 =>
      intro x1 x2 x3 s_verb s_target s_first s_second s_field s_head s_next s_many s_rows s_even g_n H locs ls hP hD hS hl hw
      unfold w257_L4 at hw
      refine lv_iload_n hx hb px_d257_4 rfl (lv_at hl 3 rfl) ?_
      refine lv_aload_n hx hb px_d257_5 rfl (lv_at hl 0 rfl) ?_
      refine va_get (D := (dC, dI)) (ci := 6) (v := .int s_many) (C := "MatroidDesk$Statement") (T := px_T6) (N := 12) hx hb htw px_in6 hown hK hP 0 rfl rfl 9 (by decide) (htw _ px_w858) (fun _ h9 => h9) rfl px_d257_6 ?_
      refine lv_icmp_ge (tgt := 34) hx hb px_d257_9 (by decide) (fun c9 => ?_) (fun c9 => ?_)
      · have hw := hw.1 c9
        exact S34 x1 x2 x3 s_verb s_target s_first s_second s_field s_head s_next s_many s_rows s_even g_n H locs ls hP hD hS (lv_sub hl [0, 1, 2, 3] rfl) hw
      · have hw := hw.2 c9
        refine lv_iload_n hx hb px_d257_12 rfl (lv_at hl 3 rfl) ?_
        refine lv_iload_n hx hb px_d257_13 rfl (lv_at hl 1 rfl) ?_
        refine lv_icmp_ge (tgt := 34) hx hb px_d257_14 (by decide) (fun c14 => ?_) (fun c14 => ?_)
        · have hw := hw.1 c14
          exact S34 x1 x2 x3 s_verb s_target s_first s_second s_field s_head s_next s_many s_rows s_even g_n H locs ls hP hD hS (lv_sub hl [0, 1, 2, 3] rfl) hw
        · have hw := hw.2 c14
          refine lv_iload_n hx hb px_d257_17 rfl (lv_at hl 2 rfl) ?_
          refine lv_iconst (v := 1) hx hb px_d257_18 (by decide) ?_
          refine lv_aload_n hx hb px_d257_19 rfl (lv_at hl 0 rfl) ?_
          refine va_get (D := (dC, dI)) (ci := 6) (v := .ref q_n) (C := "MatroidDesk$Statement") (T := px_T6) (N := 12) hx hb htw px_in6 hown hK hP 0 rfl rfl 1 (by decide) (htw _ px_w226) (fun _ h9 => h9) rfl px_d257_20 ?_
          refine lv_iload_n hx hb px_d257_23 rfl (lv_at hl 3 rfl) ?_
          obtain ⟨hi24, hw⟩ := hw
          refine va_iald hx hb hK hP 1 0 rfl rfl hi24 px_d257_24 ?_
          refine lv_ishl hx hb px_d257_25 ?_
          refine lv_ior hx hb px_d257_26 ?_
          refine lv_topi (fun z1 ez1 => ?_)
          have hw := hw z1 ez1
          refine lv_istore_n (lv' := [(2, .int z1), (0, .ref h_s), (1, .int x1), (3, .int x3)]) hx hb px_d257_27 rfl hl (by decide) rfl (fun ls hl => ?_)
          obtain ⟨z2, ez2⟩ : ∃ y : Int32, y = x3 + 1 := ⟨_, rfl⟩
          have hw := hw z2 ez2
          refine lv_iinc (v := z2) (lv' := [(3, .int z2), (2, .int z1), (0, .ref h_s), (1, .int x1)]) hx hb px_d257_28 hl (k := 3) rfl (by rw [ez2]; rfl) (by decide) rfl (fun ls hl => ?_)
          refine lv_goto (tgt := 4) hx hb px_d257_31 (by decide) ?_
          exact ih4 x1 z1 z2 s_verb s_target s_first s_second s_field s_head s_next s_many s_rows s_even g_n H locs ls hP hD hS (lv_sub hl [2, 3, 1, 0] rfl) hw
  unfold w257_wp at hw
  have hS0 := hS
  obtain ⟨H, hH9⟩ : ∃ z, z = s.heap := ⟨_, rfl⟩
  have hP : va_P (dC, dI) vwCl [(h_s, .inr (6, [.ref h_t, .ref q_n, .ref (adB s_verb), .int s_target, .int s_first, .int s_second, .int s_field, .int s_head, .int s_next, .int s_many, .int s_rows, .int s_even])), (q_n, .inl (c_i, 160, .inl g_n))] H := by rw [hH9]; exact hP
  obtain ⟨locs, hlo9⟩ : ∃ z : List Loc, z = [] := ⟨_, rfl⟩
  have hS : va_S A s.heap H locs := by rw [hH9, hlo9]; exact hS
  suffices hG : W p l e (headSpec px_s257 ({ frames := 0, cells := 0, slots := 0, locals := 0 })).room s m ([.ref h_s, .int a1x]).toArray below meth c H locs 0 0 Q (F0 m 0 ls []) by rw [hH9, hlo9] at hG; exact hG
  refine lv_iconst (v := 0) hx hb px_d257_0 (by decide) ?_
  refine lv_istore_n (lv' := [(2, .int 0), (0, .ref h_s), (1, .int a1x)]) hx hb px_d257_1 rfl hl (by decide) rfl (fun ls hl => ?_)
  refine lv_iconst (v := 0) hx hb px_d257_2 (by decide) ?_
  refine lv_istore_n (lv' := [(3, .int 0), (2, .int 0), (0, .ref h_s), (1, .int a1x)]) hx hb px_d257_3 rfl hl (by decide) rfl (fun ls hl => ?_)
  obtain ⟨k9, hw⟩ := hw
  exact S4 k9 a1x 0 0 s_verb s_target s_first s_second s_field s_head s_next s_many s_rows s_even g_n H locs ls hP hD hS (lv_sub hl [2, 3, 1, 0] rfl) hw

/-! MatroidDesk$Statement.numbersWrong(I)Z -/
def w171_L267 (post : Int32 → Nat → Int32 → Int32 → Int32 → Int32 → Int32 → Int32 → Int32 → Int32 → Int32 → (Nat → Int32) → Prop) (x1 : Int32) (y0 : Int32) (s_verb : Nat) (s_target : Int32) (s_first : Int32) (s_second : Int32) (s_field : Int32) (s_head : Int32) (s_next : Int32) (s_many : Int32) (s_rows : Int32) (s_even : Int32) (g_n : Nat → Int32) : Prop := narrow .boolean (.int y0) = .int y0 ∧ post y0 s_verb s_target s_first s_second s_field s_head s_next s_many s_rows s_even g_n
def w171_L253 (post : Int32 → Nat → Int32 → Int32 → Int32 → Int32 → Int32 → Int32 → Int32 → Int32 → Int32 → (Nat → Int32) → Prop) (x1 : Int32) (y0 : Int32) (s_verb : Nat) (s_target : Int32) (s_first : Int32) (s_second : Int32) (s_field : Int32) (s_head : Int32) (s_next : Int32) (s_many : Int32) (s_rows : Int32) (s_even : Int32) (g_n : Nat → Int32) : Prop := narrow .boolean (.int y0) = .int y0 ∧ post y0 s_verb s_target s_first s_second s_field s_head s_next s_many s_rows s_even g_n
def w171_L248 (post : Int32 → Nat → Int32 → Int32 → Int32 → Int32 → Int32 → Int32 → Int32 → Int32 → Int32 → (Nat → Int32) → Prop) (x1 : Int32) (s_verb : Nat) (s_target : Int32) (s_first : Int32) (s_second : Int32) (s_field : Int32) (s_head : Int32) (s_next : Int32) (s_many : Int32) (s_rows : Int32) (s_even : Int32) (g_n : Nat → Int32) : Prop := w171_L253 post x1 1 s_verb s_target s_first s_second s_field s_head s_next s_many s_rows s_even g_n
def w171_L224 (post : Int32 → Nat → Int32 → Int32 → Int32 → Int32 → Int32 → Int32 → Int32 → Int32 → Int32 → (Nat → Int32) → Prop) (x1 : Int32) (y0 : Int32) (s_verb : Nat) (s_target : Int32) (s_first : Int32) (s_second : Int32) (s_field : Int32) (s_head : Int32) (s_next : Int32) (s_many : Int32) (s_rows : Int32) (s_even : Int32) (g_n : Nat → Int32) : Prop := narrow .boolean (.int y0) = .int y0 ∧ post y0 s_verb s_target s_first s_second s_field s_head s_next s_many s_rows s_even g_n
def w171_L219 (post : Int32 → Nat → Int32 → Int32 → Int32 → Int32 → Int32 → Int32 → Int32 → Int32 → Int32 → (Nat → Int32) → Prop) (x1 : Int32) (s_verb : Nat) (s_target : Int32) (s_first : Int32) (s_second : Int32) (s_field : Int32) (s_head : Int32) (s_next : Int32) (s_many : Int32) (s_rows : Int32) (s_even : Int32) (g_n : Nat → Int32) : Prop := w171_L224 post x1 1 s_verb s_target s_first s_second s_field s_head s_next s_many s_rows s_even g_n
def w171_L184 (post : Int32 → Nat → Int32 → Int32 → Int32 → Int32 → Int32 → Int32 → Int32 → Int32 → Int32 → (Nat → Int32) → Prop) (x1 : Int32) (y0 : Int32) (s_verb : Nat) (s_target : Int32) (s_first : Int32) (s_second : Int32) (s_field : Int32) (s_head : Int32) (s_next : Int32) (s_many : Int32) (s_rows : Int32) (s_even : Int32) (g_n : Nat → Int32) : Prop := narrow .boolean (.int y0) = .int y0 ∧ post y0 s_verb s_target s_first s_second s_field s_head s_next s_many s_rows s_even g_n
def w171_L179 (post : Int32 → Nat → Int32 → Int32 → Int32 → Int32 → Int32 → Int32 → Int32 → Int32 → Int32 → (Nat → Int32) → Prop) (x1 : Int32) (s_verb : Nat) (s_target : Int32) (s_first : Int32) (s_second : Int32) (s_field : Int32) (s_head : Int32) (s_next : Int32) (s_many : Int32) (s_rows : Int32) (s_even : Int32) (g_n : Nat → Int32) : Prop := w171_L184 post x1 1 s_verb s_target s_first s_second s_field s_head s_next s_many s_rows s_even g_n
def w171_L141 (post : Int32 → Nat → Int32 → Int32 → Int32 → Int32 → Int32 → Int32 → Int32 → Int32 → Int32 → (Nat → Int32) → Prop) (x1 : Int32) (y0 : Int32) (s_verb : Nat) (s_target : Int32) (s_first : Int32) (s_second : Int32) (s_field : Int32) (s_head : Int32) (s_next : Int32) (s_many : Int32) (s_rows : Int32) (s_even : Int32) (g_n : Nat → Int32) : Prop := narrow .boolean (.int y0) = .int y0 ∧ post y0 s_verb s_target s_first s_second s_field s_head s_next s_many s_rows s_even g_n
def w171_L136 (post : Int32 → Nat → Int32 → Int32 → Int32 → Int32 → Int32 → Int32 → Int32 → Int32 → Int32 → (Nat → Int32) → Prop) (x1 : Int32) (s_verb : Nat) (s_target : Int32) (s_first : Int32) (s_second : Int32) (s_field : Int32) (s_head : Int32) (s_next : Int32) (s_many : Int32) (s_rows : Int32) (s_even : Int32) (g_n : Nat → Int32) : Prop := w171_L141 post x1 1 s_verb s_target s_first s_second s_field s_head s_next s_many s_rows s_even g_n
def w171_wp (post : Int32 → Nat → Int32 → Int32 → Int32 → Int32 → Int32 → Int32 → Int32 → Int32 → Int32 → (Nat → Int32) → Prop) (a1x : Int32) (s_verb : Nat) (s_target : Int32) (s_first : Int32) (s_second : Int32) (s_field : Int32) (s_head : Int32) (s_next : Int32) (s_many : Int32) (s_rows : Int32) (s_even : Int32) (g_n : Nat → Int32) : Prop := s_verb < 21 ∧ (w172_wp s_verb (fun r7  => vp_in r7 21 ∧ (((px_vs.getD (Int32.toNatClampNeg r7) 0) = 1 → (s_field = (-1) → w171_L136 post a1x s_verb s_target s_first s_second s_field s_head s_next s_many s_rows s_even g_n) ∧ (¬ s_field = (-1) → (s_head < 0 → w171_L136 post a1x s_verb s_target s_first s_second s_field s_head s_next s_many s_rows s_even g_n) ∧ (¬ s_head < 0 → (12 < s_head → w171_L136 post a1x s_verb s_target s_first s_second s_field s_head s_next s_many s_rows s_even g_n) ∧ (¬ 12 < s_head → (12 < s_rows → w171_L136 post a1x s_verb s_target s_first s_second s_field s_head s_next s_many s_rows s_even g_n) ∧ (¬ 12 < s_rows → (¬ s_even = 0 → w171_L141 post a1x 0 s_verb s_target s_first s_second s_field s_head s_next s_many s_rows s_even g_n) ∧ (s_even = 0 → w171_L136 post a1x s_verb s_target s_first s_second s_field s_head s_next s_many s_rows s_even g_n)))))) ∧ ((px_vs.getD (Int32.toNatClampNeg r7) 0) = 2 → (s_head < 1 → w171_L179 post a1x s_verb s_target s_first s_second s_field s_head s_next s_many s_rows s_even g_n) ∧ (¬ s_head < 1 → (13 < s_head → w171_L179 post a1x s_verb s_target s_first s_second s_field s_head s_next s_many s_rows s_even g_n) ∧ (¬ 13 < s_head → (24 < s_many → w171_L179 post a1x s_verb s_target s_first s_second s_field s_head s_next s_many s_rows s_even g_n) ∧ (¬ 24 < s_many → w173_wp (fun r173 v2 v3 v4 v5 v6 v7 v8 v9 v10 v11 v12 => (¬ r173 = 0 → w171_L184 post a1x 0 v2 v3 v4 v5 v6 v7 v8 v9 v10 v11 v12) ∧ (r173 = 0 → w171_L179 post a1x v2 v3 v4 v5 v6 v7 v8 v9 v10 v11 v12)) s_head s_verb s_target s_first s_second s_field s_head s_next s_many s_rows s_even g_n)))) ∧ ((px_vs.getD (Int32.toNatClampNeg r7) 0) = 3 → narrow .boolean (.int 0) = .int 0 ∧ post 0 s_verb s_target s_first s_second s_field s_head s_next s_many s_rows s_even g_n) ∧ ((px_vs.getD (Int32.toNatClampNeg r7) 0) = 4 → (a1x < s_many → w171_L248 post a1x s_verb s_target s_first s_second s_field s_head s_next s_many s_rows s_even g_n) ∧ (¬ a1x < s_many → w173_wp (fun r235 v13 v14 v15 v16 v17 v18 v19 v20 v21 v22 v23 => (r235 = 0 → w171_L248 post a1x v13 v14 v15 v16 v17 v18 v19 v20 v21 v22 v23) ∧ (¬ r235 = 0 → w174_wp (fun r242 v24 v25 v26 v27 v28 v29 v30 v31 v32 v33 v34 => (¬ r242 = 0 → w171_L253 post a1x 0 v24 v25 v26 v27 v28 v29 v30 v31 v32 v33 v34) ∧ (r242 = 0 → w171_L248 post a1x v24 v25 v26 v27 v28 v29 v30 v31 v32 v33 v34)) v13 v14 v15 v16 v17 v18 v19 v20 v21 v22 v23)) a1x s_verb s_target s_first s_second s_field s_head s_next s_many s_rows s_even g_n)) ∧ ((px_vs.getD (Int32.toNatClampNeg r7) 0) = 5 → (a1x < s_many → w171_L248 post a1x s_verb s_target s_first s_second s_field s_head s_next s_many s_rows s_even g_n) ∧ (¬ a1x < s_many → w173_wp (fun r235 v35 v36 v37 v38 v39 v40 v41 v42 v43 v44 v45 => (r235 = 0 → w171_L248 post a1x v35 v36 v37 v38 v39 v40 v41 v42 v43 v44 v45) ∧ (¬ r235 = 0 → w174_wp (fun r242 v46 v47 v48 v49 v50 v51 v52 v53 v54 v55 v56 => (¬ r242 = 0 → w171_L253 post a1x 0 v46 v47 v48 v49 v50 v51 v52 v53 v54 v55 v56) ∧ (r242 = 0 → w171_L248 post a1x v46 v47 v48 v49 v50 v51 v52 v53 v54 v55 v56)) v35 v36 v37 v38 v39 v40 v41 v42 v43 v44 v45)) a1x s_verb s_target s_first s_second s_field s_head s_next s_many s_rows s_even g_n)) ∧ ((px_vs.getD (Int32.toNatClampNeg r7) 0) = 6 → (s_many = a1x → w171_L267 post a1x 0 s_verb s_target s_first s_second s_field s_head s_next s_many s_rows s_even g_n) ∧ (¬ s_many = a1x → w171_L267 post a1x 1 s_verb s_target s_first s_second s_field s_head s_next s_many s_rows s_even g_n)) ∧ ((px_vs.getD (Int32.toNatClampNeg r7) 0) = 7 → narrow .boolean (.int 0) = .int 0 ∧ post 0 s_verb s_target s_first s_second s_field s_head s_next s_many s_rows s_even g_n) ∧ ((px_vs.getD (Int32.toNatClampNeg r7) 0) = 8 → narrow .boolean (.int 0) = .int 0 ∧ post 0 s_verb s_target s_first s_second s_field s_head s_next s_many s_rows s_even g_n) ∧ ((px_vs.getD (Int32.toNatClampNeg r7) 0) = 9 → narrow .boolean (.int 0) = .int 0 ∧ post 0 s_verb s_target s_first s_second s_field s_head s_next s_many s_rows s_even g_n) ∧ ((px_vs.getD (Int32.toNatClampNeg r7) 0) = 10 → narrow .boolean (.int 0) = .int 0 ∧ post 0 s_verb s_target s_first s_second s_field s_head s_next s_many s_rows s_even g_n) ∧ ((px_vs.getD (Int32.toNatClampNeg r7) 0) = 11 → narrow .boolean (.int 0) = .int 0 ∧ post 0 s_verb s_target s_first s_second s_field s_head s_next s_many s_rows s_even g_n) ∧ ((px_vs.getD (Int32.toNatClampNeg r7) 0) = 12 → narrow .boolean (.int 0) = .int 0 ∧ post 0 s_verb s_target s_first s_second s_field s_head s_next s_many s_rows s_even g_n) ∧ ((px_vs.getD (Int32.toNatClampNeg r7) 0) = 13 → narrow .boolean (.int 0) = .int 0 ∧ post 0 s_verb s_target s_first s_second s_field s_head s_next s_many s_rows s_even g_n) ∧ ((px_vs.getD (Int32.toNatClampNeg r7) 0) = 14 → narrow .boolean (.int 0) = .int 0 ∧ post 0 s_verb s_target s_first s_second s_field s_head s_next s_many s_rows s_even g_n) ∧ ((px_vs.getD (Int32.toNatClampNeg r7) 0) = 15 → narrow .boolean (.int 0) = .int 0 ∧ post 0 s_verb s_target s_first s_second s_field s_head s_next s_many s_rows s_even g_n) ∧ ((px_vs.getD (Int32.toNatClampNeg r7) 0) = 16 → narrow .boolean (.int 0) = .int 0 ∧ post 0 s_verb s_target s_first s_second s_field s_head s_next s_many s_rows s_even g_n) ∧ ((px_vs.getD (Int32.toNatClampNeg r7) 0) = 17 → narrow .boolean (.int 0) = .int 0 ∧ post 0 s_verb s_target s_first s_second s_field s_head s_next s_many s_rows s_even g_n) ∧ ((px_vs.getD (Int32.toNatClampNeg r7) 0) = 18 → (s_next < 0 → w171_L219 post a1x s_verb s_target s_first s_second s_field s_head s_next s_many s_rows s_even g_n) ∧ (¬ s_next < 0 → (12 < s_next → w171_L219 post a1x s_verb s_target s_first s_second s_field s_head s_next s_many s_rows s_even g_n) ∧ (¬ 12 < s_next → (s_head < 0 → w171_L219 post a1x s_verb s_target s_first s_second s_field s_head s_next s_many s_rows s_even g_n) ∧ (¬ s_head < 0 → (s_head ≤ s_next → w171_L224 post a1x 0 s_verb s_target s_first s_second s_field s_head s_next s_many s_rows s_even g_n) ∧ (¬ s_head ≤ s_next → w171_L219 post a1x s_verb s_target s_first s_second s_field s_head s_next s_many s_rows s_even g_n))))) ∧ (¬ (px_vs.getD (Int32.toNatClampNeg r7) 0) = 1 → ¬ (px_vs.getD (Int32.toNatClampNeg r7) 0) = 2 → ¬ (px_vs.getD (Int32.toNatClampNeg r7) 0) = 3 → ¬ (px_vs.getD (Int32.toNatClampNeg r7) 0) = 4 → ¬ (px_vs.getD (Int32.toNatClampNeg r7) 0) = 5 → ¬ (px_vs.getD (Int32.toNatClampNeg r7) 0) = 6 → ¬ (px_vs.getD (Int32.toNatClampNeg r7) 0) = 7 → ¬ (px_vs.getD (Int32.toNatClampNeg r7) 0) = 8 → ¬ (px_vs.getD (Int32.toNatClampNeg r7) 0) = 9 → ¬ (px_vs.getD (Int32.toNatClampNeg r7) 0) = 10 → ¬ (px_vs.getD (Int32.toNatClampNeg r7) 0) = 11 → ¬ (px_vs.getD (Int32.toNatClampNeg r7) 0) = 12 → ¬ (px_vs.getD (Int32.toNatClampNeg r7) 0) = 13 → ¬ (px_vs.getD (Int32.toNatClampNeg r7) 0) = 14 → ¬ (px_vs.getD (Int32.toNatClampNeg r7) 0) = 15 → ¬ (px_vs.getD (Int32.toNatClampNeg r7) 0) = 16 → ¬ (px_vs.getD (Int32.toNatClampNeg r7) 0) = 17 → ¬ (px_vs.getD (Int32.toNatClampNeg r7) 0) = 18 → narrow .boolean (.int 0) = .int 0 ∧ post 0 s_verb s_target s_first s_second s_field s_head s_next s_many s_rows s_even g_n))) )
set_option maxHeartbeats 8000000 in
set_option maxRecDepth 100000 in
theorem w171_met (l : Launch) (dC : Nat → ClassId) (dI : Nat → Nat → Nat) (sz : Nat) (adK : Nat → Nat) (adV : Nat → Nat) (bo : Option Nat) (adB : Nat → Nat) (tA : Nat) (tS : Nat) (h_s : Nat) (h_t : Nat) (q_n : Nat) (c_i : ClassId) (a1x : Int32) (s_verb : Nat) (s_target : Int32) (s_first : Int32) (s_second : Int32) (s_field : Int32) (s_head : Int32) (s_next : Int32) (s_many : Int32) (s_rows : Int32) (s_even : Int32) (g_n : Nat → Int32) (post : Int32 → Nat → Int32 → Int32 → Int32 → Int32 → Int32 → Int32 → Int32 → Int32 → Int32 → (Nat → Int32) → Prop) (hw : w171_wp post a1x s_verb s_target s_first s_second s_field s_head s_next s_many s_rows s_even g_n) : Met l px_y171 px_s171 ({ frames := 1, cells := 0, slots := 0, locals := 22 }) (va_Pc [.ref h_s, .int a1x] (fun U => U.heap.size = sz ∧ va_P (dC, dI) vwCl [(h_s, .inr (6, [.ref h_t, .ref q_n, .ref (adB s_verb), .int s_target, .int s_first, .int s_second, .int s_field, .int s_head, .int s_next, .int s_many, .int s_rows, .int s_even])), (q_n, .inl (c_i, 160, .inl g_n))] U.heap ∧ va_K (dC, dI) vwCl [(c_i, .int)] U ∧ va_D (fun _ => True) [(h_s, .inr (6, [.ref h_t, .ref q_n, .ref (adB s_verb), .int s_target, .int s_first, .int s_second, .int s_field, .int s_head, .int s_next, .int s_many, .int s_rows, .int s_even])), (q_n, .inl (c_i, 160, .inl g_n))] ∧ px_N U ∧ px_E adK adV bo adB tA tS (va_A [(h_s, .inr (6, [.ref h_t, .ref q_n, .ref (adB s_verb), .int s_target, .int s_first, .int s_second, .int s_field, .int s_head, .int s_next, .int s_many, .int s_rows, .int s_even])), (q_n, .inl (c_i, 160, .inl g_n))] sz) U U.heap)) (va_Qi (fun (r : Int32) (u : Nat × Int32 × Int32 × Int32 × Int32 × Int32 × Int32 × Int32 × Int32 × Int32 × (Nat → Int32)) => post r u.1 u.2.1 u.2.2.1 u.2.2.2.1 u.2.2.2.2.1 u.2.2.2.2.2.1 u.2.2.2.2.2.2.1 u.2.2.2.2.2.2.2.1 u.2.2.2.2.2.2.2.2.1 u.2.2.2.2.2.2.2.2.2.1 u.2.2.2.2.2.2.2.2.2.2) (fun (u : Nat × Int32 × Int32 × Int32 × Int32 × Int32 × Int32 × Int32 × Int32 × Int32 × (Nat → Int32)) (t : State) => va_P (dC, dI) vwCl [(h_s, .inr (6, [.ref h_t, .ref q_n, .ref (adB u.1), .int u.2.1, .int u.2.2.1, .int u.2.2.2.1, .int u.2.2.2.2.1, .int u.2.2.2.2.2.1, .int u.2.2.2.2.2.2.1, .int u.2.2.2.2.2.2.2.1, .int u.2.2.2.2.2.2.2.2.1, .int u.2.2.2.2.2.2.2.2.2.1])), (q_n, .inl (c_i, 160, .inl u.2.2.2.2.2.2.2.2.2.2))] t.heap ∧ va_K (dC, dI) vwCl [(c_i, .int)] t ∧ va_D (va_A [(h_s, .inr (6, [.ref h_t, .ref q_n, .ref (adB s_verb), .int s_target, .int s_first, .int s_second, .int s_field, .int s_head, .int s_next, .int s_many, .int s_rows, .int s_even])), (q_n, .inl (c_i, 160, .inl g_n))] sz) [(h_s, .inr (6, [.ref h_t, .ref q_n, .ref (adB u.1), .int u.2.1, .int u.2.2.1, .int u.2.2.2.1, .int u.2.2.2.2.1, .int u.2.2.2.2.2.1, .int u.2.2.2.2.2.2.1, .int u.2.2.2.2.2.2.2.1, .int u.2.2.2.2.2.2.2.2.1, .int u.2.2.2.2.2.2.2.2.2.1])), (q_n, .inl (c_i, 160, .inl u.2.2.2.2.2.2.2.2.2.2))]) (va_A [(h_s, .inr (6, [.ref h_t, .ref q_n, .ref (adB s_verb), .int s_target, .int s_first, .int s_second, .int s_field, .int s_head, .int s_next, .int s_many, .int s_rows, .int s_even])), (q_n, .inl (c_i, 160, .inl g_n))] sz)) 0 0 (va_A [(h_s, .inr (6, [.ref h_t, .ref q_n, .ref (adB s_verb), .int s_target, .int s_first, .int s_second, .int s_field, .int s_head, .int s_next, .int s_many, .int s_rows, .int s_even])), (q_n, .inl (c_i, 160, .inl g_n))] sz) := by
  refine Met.ofW (cc := prog_9_method_3_code) (maxL := 2) (ret := (some .boolean)) (by decide) rfl ?_
  intro p e s m args below meth c s₁ B hml hv
  obtain ⟨rfl, hsz, hP, hK, hD0, hN, hE0⟩ := hv
  have hx := B.exec
  have hb := B.bytes
  have hr := B.returns
  have htw : ∀ w ∈ px_all, w.before _ s = true := fun w h => atoms_spec (ws := px_s171) B.pre w (List.mem_cons_of_mem _ h)
  have hown : s.vm.findClass "MatroidDesk$Statement" = some m.cls := findClass_of_methodNamed B.named
  have hlocks := B.notSynchronized
  subst hsz
  have hD := hD0.self (sz := s.heap.size)
  generalize hAe : va_A [(h_s, .inr (6, [.ref h_t, .ref q_n, .ref (adB s_verb), .int s_target, .int s_first, .int s_second, .int s_field, .int s_head, .int s_next, .int s_many, .int s_rows, .int s_even])), (q_n, .inl (c_i, 160, .inl g_n))] s.heap.size = A at hD hE0 ⊢
  have hA : ∀ q : Nat, s.heap.size ≤ q → A q := fun q h => by rw [← hAe]; exact Or.inr h
  have hS : va_S A s.heap s.heap [] := va_S.rf
  have hP : va_P (dC, dI) vwCl [(h_s, .inr (6, [.ref h_t, .ref q_n, .ref (adB s_verb), .int s_target, .int s_first, .int s_second, .int s_field, .int s_head, .int s_next, .int s_many, .int s_rows, .int s_even])), (q_n, .inl (c_i, 160, .inl g_n))] s.heap := hP
  have hl := lv_entry ([.ref h_s, .int a1x]) (n := 2) (Nat.le_of_ble_eq_true rfl)
  rw [lg_entry_eq]
  generalize (lg_sl ([.ref h_s, .int a1x]) ++ List.replicate (2 - (lg_sl ([.ref h_s, .int a1x])).length) Slot.unset).toArray = ls at hl ⊢
  have hl : lv_has ls 2 [(0, .ref h_s), (1, .int a1x)] := hl
  generalize hQ : MQ _ _ _ _ _ _ _ = Q
  have S267 : ∀ (x1 : Int32) (y0 : Int32) (s_verb : Nat) (s_target : Int32) (s_first : Int32) (s_second : Int32) (s_field : Int32) (s_head : Int32) (s_next : Int32) (s_many : Int32) (s_rows : Int32) (s_even : Int32) (g_n : Nat → Int32) (H : Heap) (locs : List Loc) (ls : Array Slot), va_P (dC, dI) vwCl [(h_s, .inr (6, [.ref h_t, .ref q_n, .ref (adB s_verb), .int s_target, .int s_first, .int s_second, .int s_field, .int s_head, .int s_next, .int s_many, .int s_rows, .int s_even])), (q_n, .inl (c_i, 160, .inl g_n))] H → va_D A [(h_s, .inr (6, [.ref h_t, .ref q_n, .ref (adB s_verb), .int s_target, .int s_first, .int s_second, .int s_field, .int s_head, .int s_next, .int s_many, .int s_rows, .int s_even])), (q_n, .inl (c_i, 160, .inl g_n))] → va_S A s.heap H locs → lv_has ls 2 [(0, .ref h_s), (1, .int x1)] → w171_L267 post x1 y0 s_verb s_target s_first s_second s_field s_head s_next s_many s_rows s_even g_n → W p l e (headSpec px_s171 ({ frames := 1, cells := 0, slots := 0, locals := 22 })).room s m ([.ref h_s, .int a1x]).toArray below meth c H locs 0 0 Q (F0 m 267 ls [.int y0]) := by
    intro x1 y0 s_verb s_target s_first s_second s_field s_head s_next s_many s_rows s_even g_n H locs ls hP hD hS hl hw
    unfold w171_L267 at hw
    obtain ⟨hz9, hw⟩ := hw
    rw [← hQ]
    exact W.zret (v := y0) hx hb hr hz9 (fun t ht hW => ⟨⟨y0, (s_verb, s_target, s_first, s_second, s_field, s_head, s_next, s_many, s_rows, s_even, g_n), rfl, hw, by rw [ht]; exact hP, va_K.moved hW.alike hK, hD⟩, hS.F ht⟩) hS.2.2 px_d171_267
  have S253 : ∀ (x1 : Int32) (y0 : Int32) (s_verb : Nat) (s_target : Int32) (s_first : Int32) (s_second : Int32) (s_field : Int32) (s_head : Int32) (s_next : Int32) (s_many : Int32) (s_rows : Int32) (s_even : Int32) (g_n : Nat → Int32) (H : Heap) (locs : List Loc) (ls : Array Slot), va_P (dC, dI) vwCl [(h_s, .inr (6, [.ref h_t, .ref q_n, .ref (adB s_verb), .int s_target, .int s_first, .int s_second, .int s_field, .int s_head, .int s_next, .int s_many, .int s_rows, .int s_even])), (q_n, .inl (c_i, 160, .inl g_n))] H → va_D A [(h_s, .inr (6, [.ref h_t, .ref q_n, .ref (adB s_verb), .int s_target, .int s_first, .int s_second, .int s_field, .int s_head, .int s_next, .int s_many, .int s_rows, .int s_even])), (q_n, .inl (c_i, 160, .inl g_n))] → va_S A s.heap H locs → lv_has ls 2 [(0, .ref h_s), (1, .int x1)] → w171_L253 post x1 y0 s_verb s_target s_first s_second s_field s_head s_next s_many s_rows s_even g_n → W p l e (headSpec px_s171 ({ frames := 1, cells := 0, slots := 0, locals := 22 })).room s m ([.ref h_s, .int a1x]).toArray below meth c H locs 0 0 Q (F0 m 253 ls [.int y0]) := by
    intro x1 y0 s_verb s_target s_first s_second s_field s_head s_next s_many s_rows s_even g_n H locs ls hP hD hS hl hw
    unfold w171_L253 at hw
    obtain ⟨hz9, hw⟩ := hw
    rw [← hQ]
    exact W.zret (v := y0) hx hb hr hz9 (fun t ht hW => ⟨⟨y0, (s_verb, s_target, s_first, s_second, s_field, s_head, s_next, s_many, s_rows, s_even, g_n), rfl, hw, by rw [ht]; exact hP, va_K.moved hW.alike hK, hD⟩, hS.F ht⟩) hS.2.2 px_d171_253
  have S248 : ∀ (x1 : Int32) (s_verb : Nat) (s_target : Int32) (s_first : Int32) (s_second : Int32) (s_field : Int32) (s_head : Int32) (s_next : Int32) (s_many : Int32) (s_rows : Int32) (s_even : Int32) (g_n : Nat → Int32) (H : Heap) (locs : List Loc) (ls : Array Slot), va_P (dC, dI) vwCl [(h_s, .inr (6, [.ref h_t, .ref q_n, .ref (adB s_verb), .int s_target, .int s_first, .int s_second, .int s_field, .int s_head, .int s_next, .int s_many, .int s_rows, .int s_even])), (q_n, .inl (c_i, 160, .inl g_n))] H → va_D A [(h_s, .inr (6, [.ref h_t, .ref q_n, .ref (adB s_verb), .int s_target, .int s_first, .int s_second, .int s_field, .int s_head, .int s_next, .int s_many, .int s_rows, .int s_even])), (q_n, .inl (c_i, 160, .inl g_n))] → va_S A s.heap H locs → lv_has ls 2 [(0, .ref h_s), (1, .int x1)] → w171_L248 post x1 s_verb s_target s_first s_second s_field s_head s_next s_many s_rows s_even g_n → W p l e (headSpec px_s171 ({ frames := 1, cells := 0, slots := 0, locals := 22 })).room s m ([.ref h_s, .int a1x]).toArray below meth c H locs 0 0 Q (F0 m 248 ls []) := by
    intro x1 s_verb s_target s_first s_second s_field s_head s_next s_many s_rows s_even g_n H locs ls hP hD hS hl hw
    unfold w171_L248 at hw
    refine lv_iconst (v := 1) hx hb px_d171_248 (by decide) ?_
    refine lv_goto (tgt := 253) hx hb px_d171_249 (by decide) ?_
    exact S253 x1 1 s_verb s_target s_first s_second s_field s_head s_next s_many s_rows s_even g_n H locs ls hP hD hS (lv_sub hl [0, 1] rfl) hw
  have S224 : ∀ (x1 : Int32) (y0 : Int32) (s_verb : Nat) (s_target : Int32) (s_first : Int32) (s_second : Int32) (s_field : Int32) (s_head : Int32) (s_next : Int32) (s_many : Int32) (s_rows : Int32) (s_even : Int32) (g_n : Nat → Int32) (H : Heap) (locs : List Loc) (ls : Array Slot), va_P (dC, dI) vwCl [(h_s, .inr (6, [.ref h_t, .ref q_n, .ref (adB s_verb), .int s_target, .int s_first, .int s_second, .int s_field, .int s_head, .int s_next, .int s_many, .int s_rows, .int s_even])), (q_n, .inl (c_i, 160, .inl g_n))] H → va_D A [(h_s, .inr (6, [.ref h_t, .ref q_n, .ref (adB s_verb), .int s_target, .int s_first, .int s_second, .int s_field, .int s_head, .int s_next, .int s_many, .int s_rows, .int s_even])), (q_n, .inl (c_i, 160, .inl g_n))] → va_S A s.heap H locs → lv_has ls 2 [(0, .ref h_s), (1, .int x1)] → w171_L224 post x1 y0 s_verb s_target s_first s_second s_field s_head s_next s_many s_rows s_even g_n → W p l e (headSpec px_s171 ({ frames := 1, cells := 0, slots := 0, locals := 22 })).room s m ([.ref h_s, .int a1x]).toArray below meth c H locs 0 0 Q (F0 m 224 ls [.int y0]) := by
    intro x1 y0 s_verb s_target s_first s_second s_field s_head s_next s_many s_rows s_even g_n H locs ls hP hD hS hl hw
    unfold w171_L224 at hw
    obtain ⟨hz9, hw⟩ := hw
    rw [← hQ]
    exact W.zret (v := y0) hx hb hr hz9 (fun t ht hW => ⟨⟨y0, (s_verb, s_target, s_first, s_second, s_field, s_head, s_next, s_many, s_rows, s_even, g_n), rfl, hw, by rw [ht]; exact hP, va_K.moved hW.alike hK, hD⟩, hS.F ht⟩) hS.2.2 px_d171_224
  have S219 : ∀ (x1 : Int32) (s_verb : Nat) (s_target : Int32) (s_first : Int32) (s_second : Int32) (s_field : Int32) (s_head : Int32) (s_next : Int32) (s_many : Int32) (s_rows : Int32) (s_even : Int32) (g_n : Nat → Int32) (H : Heap) (locs : List Loc) (ls : Array Slot), va_P (dC, dI) vwCl [(h_s, .inr (6, [.ref h_t, .ref q_n, .ref (adB s_verb), .int s_target, .int s_first, .int s_second, .int s_field, .int s_head, .int s_next, .int s_many, .int s_rows, .int s_even])), (q_n, .inl (c_i, 160, .inl g_n))] H → va_D A [(h_s, .inr (6, [.ref h_t, .ref q_n, .ref (adB s_verb), .int s_target, .int s_first, .int s_second, .int s_field, .int s_head, .int s_next, .int s_many, .int s_rows, .int s_even])), (q_n, .inl (c_i, 160, .inl g_n))] → va_S A s.heap H locs → lv_has ls 2 [(0, .ref h_s), (1, .int x1)] → w171_L219 post x1 s_verb s_target s_first s_second s_field s_head s_next s_many s_rows s_even g_n → W p l e (headSpec px_s171 ({ frames := 1, cells := 0, slots := 0, locals := 22 })).room s m ([.ref h_s, .int a1x]).toArray below meth c H locs 0 0 Q (F0 m 219 ls []) := by
    intro x1 s_verb s_target s_first s_second s_field s_head s_next s_many s_rows s_even g_n H locs ls hP hD hS hl hw
    unfold w171_L219 at hw
    refine lv_iconst (v := 1) hx hb px_d171_219 (by decide) ?_
    refine lv_goto (tgt := 224) hx hb px_d171_220 (by decide) ?_
    exact S224 x1 1 s_verb s_target s_first s_second s_field s_head s_next s_many s_rows s_even g_n H locs ls hP hD hS (lv_sub hl [0, 1] rfl) hw
  have S184 : ∀ (x1 : Int32) (y0 : Int32) (s_verb : Nat) (s_target : Int32) (s_first : Int32) (s_second : Int32) (s_field : Int32) (s_head : Int32) (s_next : Int32) (s_many : Int32) (s_rows : Int32) (s_even : Int32) (g_n : Nat → Int32) (H : Heap) (locs : List Loc) (ls : Array Slot), va_P (dC, dI) vwCl [(h_s, .inr (6, [.ref h_t, .ref q_n, .ref (adB s_verb), .int s_target, .int s_first, .int s_second, .int s_field, .int s_head, .int s_next, .int s_many, .int s_rows, .int s_even])), (q_n, .inl (c_i, 160, .inl g_n))] H → va_D A [(h_s, .inr (6, [.ref h_t, .ref q_n, .ref (adB s_verb), .int s_target, .int s_first, .int s_second, .int s_field, .int s_head, .int s_next, .int s_many, .int s_rows, .int s_even])), (q_n, .inl (c_i, 160, .inl g_n))] → va_S A s.heap H locs → lv_has ls 2 [(0, .ref h_s), (1, .int x1)] → w171_L184 post x1 y0 s_verb s_target s_first s_second s_field s_head s_next s_many s_rows s_even g_n → W p l e (headSpec px_s171 ({ frames := 1, cells := 0, slots := 0, locals := 22 })).room s m ([.ref h_s, .int a1x]).toArray below meth c H locs 0 0 Q (F0 m 184 ls [.int y0]) := by
    intro x1 y0 s_verb s_target s_first s_second s_field s_head s_next s_many s_rows s_even g_n H locs ls hP hD hS hl hw
    unfold w171_L184 at hw
    obtain ⟨hz9, hw⟩ := hw
    rw [← hQ]
    exact W.zret (v := y0) hx hb hr hz9 (fun t ht hW => ⟨⟨y0, (s_verb, s_target, s_first, s_second, s_field, s_head, s_next, s_many, s_rows, s_even, g_n), rfl, hw, by rw [ht]; exact hP, va_K.moved hW.alike hK, hD⟩, hS.F ht⟩) hS.2.2 px_d171_184
  have S179 : ∀ (x1 : Int32) (s_verb : Nat) (s_target : Int32) (s_first : Int32) (s_second : Int32) (s_field : Int32) (s_head : Int32) (s_next : Int32) (s_many : Int32) (s_rows : Int32) (s_even : Int32) (g_n : Nat → Int32) (H : Heap) (locs : List Loc) (ls : Array Slot), va_P (dC, dI) vwCl [(h_s, .inr (6, [.ref h_t, .ref q_n, .ref (adB s_verb), .int s_target, .int s_first, .int s_second, .int s_field, .int s_head, .int s_next, .int s_many, .int s_rows, .int s_even])), (q_n, .inl (c_i, 160, .inl g_n))] H → va_D A [(h_s, .inr (6, [.ref h_t, .ref q_n, .ref (adB s_verb), .int s_target, .int s_first, .int s_second, .int s_field, .int s_head, .int s_next, .int s_many, .int s_rows, .int s_even])), (q_n, .inl (c_i, 160, .inl g_n))] → va_S A s.heap H locs → lv_has ls 2 [(0, .ref h_s), (1, .int x1)] → w171_L179 post x1 s_verb s_target s_first s_second s_field s_head s_next s_many s_rows s_even g_n → W p l e (headSpec px_s171 ({ frames := 1, cells := 0, slots := 0, locals := 22 })).room s m ([.ref h_s, .int a1x]).toArray below meth c H locs 0 0 Q (F0 m 179 ls []) := by
    intro x1 s_verb s_target s_first s_second s_field s_head s_next s_many s_rows s_even g_n H locs ls hP hD hS hl hw
    unfold w171_L179 at hw
    refine lv_iconst (v := 1) hx hb px_d171_179 (by decide) ?_
    refine lv_goto (tgt := 184) hx hb px_d171_180 (by decide) ?_
    exact S184 x1 1 s_verb s_target s_first s_second s_field s_head s_next s_many s_rows s_even g_n H locs ls hP hD hS (lv_sub hl [0, 1] rfl) hw
  have S141 : ∀ (x1 : Int32) (y0 : Int32) (s_verb : Nat) (s_target : Int32) (s_first : Int32) (s_second : Int32) (s_field : Int32) (s_head : Int32) (s_next : Int32) (s_many : Int32) (s_rows : Int32) (s_even : Int32) (g_n : Nat → Int32) (H : Heap) (locs : List Loc) (ls : Array Slot), va_P (dC, dI) vwCl [(h_s, .inr (6, [.ref h_t, .ref q_n, .ref (adB s_verb), .int s_target, .int s_first, .int s_second, .int s_field, .int s_head, .int s_next, .int s_many, .int s_rows, .int s_even])), (q_n, .inl (c_i, 160, .inl g_n))] H → va_D A [(h_s, .inr (6, [.ref h_t, .ref q_n, .ref (adB s_verb), .int s_target, .int s_first, .int s_second, .int s_field, .int s_head, .int s_next, .int s_many, .int s_rows, .int s_even])), (q_n, .inl (c_i, 160, .inl g_n))] → va_S A s.heap H locs → lv_has ls 2 [(0, .ref h_s), (1, .int x1)] → w171_L141 post x1 y0 s_verb s_target s_first s_second s_field s_head s_next s_many s_rows s_even g_n → W p l e (headSpec px_s171 ({ frames := 1, cells := 0, slots := 0, locals := 22 })).room s m ([.ref h_s, .int a1x]).toArray below meth c H locs 0 0 Q (F0 m 141 ls [.int y0]) := by
    intro x1 y0 s_verb s_target s_first s_second s_field s_head s_next s_many s_rows s_even g_n H locs ls hP hD hS hl hw
    unfold w171_L141 at hw
    obtain ⟨hz9, hw⟩ := hw
    rw [← hQ]
    exact W.zret (v := y0) hx hb hr hz9 (fun t ht hW => ⟨⟨y0, (s_verb, s_target, s_first, s_second, s_field, s_head, s_next, s_many, s_rows, s_even, g_n), rfl, hw, by rw [ht]; exact hP, va_K.moved hW.alike hK, hD⟩, hS.F ht⟩) hS.2.2 px_d171_141
  have S136 : ∀ (x1 : Int32) (s_verb : Nat) (s_target : Int32) (s_first : Int32) (s_second : Int32) (s_field : Int32) (s_head : Int32) (s_next : Int32) (s_many : Int32) (s_rows : Int32) (s_even : Int32) (g_n : Nat → Int32) (H : Heap) (locs : List Loc) (ls : Array Slot), va_P (dC, dI) vwCl [(h_s, .inr (6, [.ref h_t, .ref q_n, .ref (adB s_verb), .int s_target, .int s_first, .int s_second, .int s_field, .int s_head, .int s_next, .int s_many, .int s_rows, .int s_even])), (q_n, .inl (c_i, 160, .inl g_n))] H → va_D A [(h_s, .inr (6, [.ref h_t, .ref q_n, .ref (adB s_verb), .int s_target, .int s_first, .int s_second, .int s_field, .int s_head, .int s_next, .int s_many, .int s_rows, .int s_even])), (q_n, .inl (c_i, 160, .inl g_n))] → va_S A s.heap H locs → lv_has ls 2 [(0, .ref h_s), (1, .int x1)] → w171_L136 post x1 s_verb s_target s_first s_second s_field s_head s_next s_many s_rows s_even g_n → W p l e (headSpec px_s171 ({ frames := 1, cells := 0, slots := 0, locals := 22 })).room s m ([.ref h_s, .int a1x]).toArray below meth c H locs 0 0 Q (F0 m 136 ls []) := by
    intro x1 s_verb s_target s_first s_second s_field s_head s_next s_many s_rows s_even g_n H locs ls hP hD hS hl hw
    unfold w171_L136 at hw
    refine lv_iconst (v := 1) hx hb px_d171_136 (by decide) ?_
    refine lv_goto (tgt := 141) hx hb px_d171_137 (by decide) ?_
    exact S141 x1 1 s_verb s_target s_first s_second s_field s_head s_next s_many s_rows s_even g_n H locs ls hP hD hS (lv_sub hl [0, 1] rfl) hw
  unfold w171_wp at hw
  have hS0 := hS
  obtain ⟨H, hH9⟩ : ∃ z, z = s.heap := ⟨_, rfl⟩
  have hP : va_P (dC, dI) vwCl [(h_s, .inr (6, [.ref h_t, .ref q_n, .ref (adB s_verb), .int s_target, .int s_first, .int s_second, .int s_field, .int s_head, .int s_next, .int s_many, .int s_rows, .int s_even])), (q_n, .inl (c_i, 160, .inl g_n))] H := by rw [hH9]; exact hP
  obtain ⟨locs, hlo9⟩ : ∃ z : List Loc, z = [] := ⟨_, rfl⟩
  have hS : va_S A s.heap H locs := by rw [hH9, hlo9]; exact hS
  suffices hG : W p l e (headSpec px_s171 ({ frames := 1, cells := 0, slots := 0, locals := 22 })).room s m ([.ref h_s, .int a1x]).toArray below meth c H locs 0 0 Q (F0 m 0 ls []) by rw [hH9, hlo9] at hG; exact hG
  refine va_gets hx hb hE0.2.2.2.2.2.2.2.2.1 hS hown (htw _ px_w974) (fun _ h9 => h9) px_d171_0 ?_
  refine lv_aload_n hx hb px_d171_3 rfl (lv_at hl 0 rfl) ?_
  refine va_get (D := (dC, dI)) (ci := 6) (v := .ref (adB s_verb)) (C := "MatroidDesk$Statement") (T := px_T6) (N := 12) hx hb htw px_in6 hown hK hP 0 rfl rfl 2 (by decide) (htw _ px_w228) (fun _ h9 => h9) rfl px_d171_4 ?_
  obtain ⟨hp7, hw⟩ := hw
  have hPc := hP.sub (ws' := []) [] rfl
  have hDc := hD.sub (ws' := []) [] (by decide) rfl
  have hFc := va_free (wc := []) hD hS hA [] rfl
  have hKc := hK.sub (tys' := []) [] rfl
  refine va_calli (va_runU (As := []) (rest := [.ref tS]) ⟨hx, hb, hml, hown, htw⟩ (w172_met l dC dI H.size adK adV bo adB tA tS s_verb _ hw) (va_cwU 0 htw (px_gu px_w1777 px_w1778 px_w1779 px_w978 px_w1746 px_g172) rfl rfl rfl rfl (by decide +kernel) ⟨Nat.le_of_ble_eq_true rfl, Nat.le_of_ble_eq_true rfl⟩) ⟨fun a U g mk q => by obtain ⟨q0, q1, qP, qK, qD, qN, qE0⟩ := q; exact ⟨q0, q1, qP, va_K.moved (u := U) (U := U.calling g mk a) (Vm.Alike.refl U.vm) qK, qD, qN.same rfl, qE0.same rfl⟩, va_recvE hE0.2.2.2.2.1 (show _ < px_vn.length from hp7) hS, fun U hU hW => ⟨rfl, by rw [hU], by rw [hU]; exact hPc, va_K.moved hW.alike hKc, hDc.weaken (fun _ _ _ _ => trivial), hN.warm hW, by rw [hU]; exact hE0.go hS hFc hW⟩⟩ rfl rfl hl.1 rfl (lv_room (Nat.le_of_ble_eq_true rfl)) px_d171_7 ⟨(Nat.le_of_ble_eq_true rfl), (Nat.le_of_ble_eq_true rfl)⟩) hS (fun q _ h => hFc q h) hFc (fun r7 u t H1 locs ht hvm hw hB hz1 hk1 hS => ?_)
  obtain ⟨hP1, hK1, hD1⟩ := hB
  rw [ht] at hP1
  obtain ⟨hP, hD⟩ := va_join (wr := [(h_s, .inr (6, [.ref h_t, .ref q_n, .ref (adB s_verb), .int s_target, .int s_first, .int s_second, .int s_field, .int s_head, .int s_next, .int s_many, .int s_rows, .int s_even])), (q_n, .inl (c_i, 160, .inl g_n))]) (w1 := []) hP hD [] [0, 1] rfl rfl (by decide) (by decide) hk1 hFc hP1 hD1
  generalize H1 = H at hP hS ⊢
  have hP : va_P (dC, dI) vwCl [(h_s, .inr (6, [.ref h_t, .ref q_n, .ref (adB s_verb), .int s_target, .int s_first, .int s_second, .int s_field, .int s_head, .int s_next, .int s_many, .int s_rows, .int s_even])), (q_n, .inl (c_i, 160, .inl g_n))] H := hP
  have hD : va_D A [(h_s, .inr (6, [.ref h_t, .ref q_n, .ref (adB s_verb), .int s_target, .int s_first, .int s_second, .int s_field, .int s_head, .int s_next, .int s_many, .int s_rows, .int s_even])), (q_n, .inl (c_i, 160, .inl g_n))] := hD
  obtain ⟨hi10, hw⟩ := hw
  refine va_ti hx hb hE0.2.2.2.2.2.2.2.2.2 hS hi10 rfl px_d171_10 ?_
  by_cases t11_1 : (px_vs.getD (Int32.toNatClampNeg r7) 0) = 1
  · have hw := hw.1 t11_1
    refine lv_tableIn (off := 85) (tgt := 96) hx hb px_d171_11 (by rw [t11_1]; decide) (by rw [t11_1]; decide) (by rw [t11_1]; decide) (by decide) ?_
    refine lv_aload_n hx hb px_d171_96 rfl (lv_at hl 0 rfl) ?_
    refine va_get (D := (dC, dI)) (ci := 6) (v := .int s_field) (C := "MatroidDesk$Statement") (T := px_T6) (N := 12) hx hb htw px_in6 hown hK hP 0 rfl rfl 6 (by decide) (htw _ px_w929) (fun _ h9 => h9) rfl px_d171_97 ?_
    refine lv_iconst (v := (-1)) hx hb px_d171_100 (by decide) ?_
    refine lv_icmp_eq (tgt := 136) hx hb px_d171_101 (by decide) (fun c101 => ?_) (fun c101 => ?_)
    · have hw := hw.1 c101
      exact S136 a1x s_verb s_target s_first s_second s_field s_head s_next s_many s_rows s_even g_n H locs ls hP hD hS (lv_sub hl [0, 1] rfl) hw
    · have hw := hw.2 c101
      refine lv_aload_n hx hb px_d171_104 rfl (lv_at hl 0 rfl) ?_
      refine va_get (D := (dC, dI)) (ci := 6) (v := .int s_head) (C := "MatroidDesk$Statement") (T := px_T6) (N := 12) hx hb htw px_in6 hown hK hP 0 rfl rfl 7 (by decide) (htw _ px_w936) (fun _ h9 => h9) rfl px_d171_105 ?_
      refine lv_if_lt (tgt := 136) hx hb px_d171_108 (by decide) (fun c108 => ?_) (fun c108 => ?_)
      · have hw := hw.1 c108
        exact S136 a1x s_verb s_target s_first s_second s_field s_head s_next s_many s_rows s_even g_n H locs ls hP hD hS (lv_sub hl [0, 1] rfl) hw
      · have hw := hw.2 c108
        refine lv_aload_n hx hb px_d171_111 rfl (lv_at hl 0 rfl) ?_
        refine va_get (D := (dC, dI)) (ci := 6) (v := .int s_head) (C := "MatroidDesk$Statement") (T := px_T6) (N := 12) hx hb htw px_in6 hown hK hP 0 rfl rfl 7 (by decide) (htw _ px_w936) (fun _ h9 => h9) rfl px_d171_112 ?_
        refine lv_bipush (v := 12) hx hb px_d171_115 (by decide) ?_
        refine lv_icmp_gt (tgt := 136) hx hb px_d171_117 (by decide) (fun c117 => ?_) (fun c117 => ?_)
        · have hw := hw.1 c117
          exact S136 a1x s_verb s_target s_first s_second s_field s_head s_next s_many s_rows s_even g_n H locs ls hP hD hS (lv_sub hl [0, 1] rfl) hw
        · have hw := hw.2 c117
          refine lv_aload_n hx hb px_d171_120 rfl (lv_at hl 0 rfl) ?_
          refine va_get (D := (dC, dI)) (ci := 6) (v := .int s_rows) (C := "MatroidDesk$Statement") (T := px_T6) (N := 12) hx hb htw px_in6 hown hK hP 0 rfl rfl 10 (by decide) (htw _ px_w859) (fun _ h9 => h9) rfl px_d171_121 ?_
          refine lv_bipush (v := 12) hx hb px_d171_124 (by decide) ?_
          refine lv_icmp_gt (tgt := 136) hx hb px_d171_126 (by decide) (fun c126 => ?_) (fun c126 => ?_)
          · have hw := hw.1 c126
            exact S136 a1x s_verb s_target s_first s_second s_field s_head s_next s_many s_rows s_even g_n H locs ls hP hD hS (lv_sub hl [0, 1] rfl) hw
          · have hw := hw.2 c126
            refine lv_aload_n hx hb px_d171_129 rfl (lv_at hl 0 rfl) ?_
            refine va_get (D := (dC, dI)) (ci := 6) (v := .int s_even) (C := "MatroidDesk$Statement") (T := px_T6) (N := 12) hx hb htw px_in6 hown hK hP 0 rfl rfl 11 (by decide) (htw _ px_w860) (fun _ h9 => h9) rfl px_d171_130 ?_
            refine lv_if_ne (tgt := 140) hx hb px_d171_133 (by decide) (fun c133 => ?_) (fun c133 => ?_)
            · have hw := hw.1 c133
              refine lv_iconst (v := 0) hx hb px_d171_140 (by decide) ?_
              exact S141 a1x 0 s_verb s_target s_first s_second s_field s_head s_next s_many s_rows s_even g_n H locs ls hP hD hS (lv_sub hl [0, 1] rfl) hw
            · have hw := hw.2 c133
              exact S136 a1x s_verb s_target s_first s_second s_field s_head s_next s_many s_rows s_even g_n H locs ls hP hD hS (lv_sub hl [0, 1] rfl) hw
  by_cases t11_2 : (px_vs.getD (Int32.toNatClampNeg r7) 0) = 2
  · have hw := hw.2.1 t11_2
    refine lv_tableIn (off := 131) (tgt := 142) hx hb px_d171_11 (by rw [t11_2]; decide) (by rw [t11_2]; decide) (by rw [t11_2]; decide) (by decide) ?_
    refine lv_aload_n hx hb px_d171_142 rfl (lv_at hl 0 rfl) ?_
    refine va_get (D := (dC, dI)) (ci := 6) (v := .int s_head) (C := "MatroidDesk$Statement") (T := px_T6) (N := 12) hx hb htw px_in6 hown hK hP 0 rfl rfl 7 (by decide) (htw _ px_w936) (fun _ h9 => h9) rfl px_d171_143 ?_
    refine lv_iconst (v := 1) hx hb px_d171_146 (by decide) ?_
    refine lv_icmp_lt (tgt := 179) hx hb px_d171_147 (by decide) (fun c147 => ?_) (fun c147 => ?_)
    · have hw := hw.1 c147
      exact S179 a1x s_verb s_target s_first s_second s_field s_head s_next s_many s_rows s_even g_n H locs ls hP hD hS (lv_sub hl [0, 1] rfl) hw
    · have hw := hw.2 c147
      refine lv_aload_n hx hb px_d171_150 rfl (lv_at hl 0 rfl) ?_
      refine va_get (D := (dC, dI)) (ci := 6) (v := .int s_head) (C := "MatroidDesk$Statement") (T := px_T6) (N := 12) hx hb htw px_in6 hown hK hP 0 rfl rfl 7 (by decide) (htw _ px_w936) (fun _ h9 => h9) rfl px_d171_151 ?_
      refine lv_bipush (v := 13) hx hb px_d171_154 (by decide) ?_
      refine lv_icmp_gt (tgt := 179) hx hb px_d171_156 (by decide) (fun c156 => ?_) (fun c156 => ?_)
      · have hw := hw.1 c156
        exact S179 a1x s_verb s_target s_first s_second s_field s_head s_next s_many s_rows s_even g_n H locs ls hP hD hS (lv_sub hl [0, 1] rfl) hw
      · have hw := hw.2 c156
        refine lv_aload_n hx hb px_d171_159 rfl (lv_at hl 0 rfl) ?_
        refine va_get (D := (dC, dI)) (ci := 6) (v := .int s_many) (C := "MatroidDesk$Statement") (T := px_T6) (N := 12) hx hb htw px_in6 hown hK hP 0 rfl rfl 9 (by decide) (htw _ px_w858) (fun _ h9 => h9) rfl px_d171_160 ?_
        refine lv_bipush (v := 24) hx hb px_d171_163 (by decide) ?_
        refine lv_icmp_gt (tgt := 179) hx hb px_d171_165 (by decide) (fun c165 => ?_) (fun c165 => ?_)
        · have hw := hw.1 c165
          exact S179 a1x s_verb s_target s_first s_second s_field s_head s_next s_many s_rows s_even g_n H locs ls hP hD hS (lv_sub hl [0, 1] rfl) hw
        · have hw := hw.2 c165
          refine lv_aload_n hx hb px_d171_168 rfl (lv_at hl 0 rfl) ?_
          refine lv_aload_n hx hb px_d171_169 rfl (lv_at hl 0 rfl) ?_
          refine va_get (D := (dC, dI)) (ci := 6) (v := .int s_head) (C := "MatroidDesk$Statement") (T := px_T6) (N := 12) hx hb htw px_in6 hown hK hP 0 rfl rfl 7 (by decide) (htw _ px_w936) (fun _ h9 => h9) rfl px_d171_170 ?_
          have hPc := hP.sub (ws' := [(h_s, .inr (6, [.ref h_t, .ref q_n, .ref (adB s_verb), .int s_target, .int s_first, .int s_second, .int s_field, .int s_head, .int s_next, .int s_many, .int s_rows, .int s_even])), (q_n, .inl (c_i, 160, .inl g_n))]) [0, 1] rfl
          have hDc := hD.sub (ws' := [(h_s, .inr (6, [.ref h_t, .ref q_n, .ref (adB s_verb), .int s_target, .int s_first, .int s_second, .int s_field, .int s_head, .int s_next, .int s_many, .int s_rows, .int s_even])), (q_n, .inl (c_i, 160, .inl g_n))]) [0, 1] (by decide) rfl
          have hKc := hK.sub (tys' := [(c_i, .int)]) [0] rfl
          have hFc := va_free (wc := [(h_s, .inr (6, [.ref h_t, .ref q_n, .ref (adB s_verb), .int s_target, .int s_first, .int s_second, .int s_field, .int s_head, .int s_next, .int s_many, .int s_rows, .int s_even])), (q_n, .inl (c_i, 160, .inl g_n))]) hD hS hA [0, 1] rfl
          refine va_calli (va_runV (As := [.int s_head]) (rest := []) ⟨hx, hb, hml, hown, htw⟩ (w173_met l dC dI H.size adB h_s h_t q_n c_i s_head s_verb s_target s_first s_second s_field s_head s_next s_many s_rows s_even g_n _ hw) (cwV 1 htw (px_gv px_w975 px_w980 px_w981 px_w74 px_g173) rfl rfl rfl (by decide +kernel) ⟨Nat.le_of_ble_eq_true rfl, Nat.le_of_ble_eq_true rfl⟩) ⟨fun a U g mk q => by obtain ⟨q0, q1, qP, qK, qD, qN⟩ := q; exact ⟨q0, q1, qP, va_K.moved (u := U) (U := U.calling g mk a) (Vm.Alike.refl U.vm) qK, qD, qN.same rfl⟩, va_recv hK hP (ci := 6) (q0 := 0) rfl rfl, fun U hU hW => ⟨rfl, by rw [hU], by rw [hU]; exact hPc, va_K.moved hW.alike hKc, hDc.weaken (fun _ _ _ _ => trivial), hN.warm hW⟩⟩ rfl rfl hl.1 rfl (lv_room (Nat.le_of_ble_eq_true rfl)) px_d171_173 ⟨(Nat.le_of_ble_eq_true rfl), (Nat.le_of_ble_eq_true rfl)⟩) hS (fun q _ h => hFc q h) hFc (fun r173 u t H1 locs ht hvm hw hB hz1 hk1 hS => ?_)
          obtain ⟨v2, v3, v4, v5, v6, v7, v8, v9, v10, v11, v12⟩ := u
          obtain ⟨hP1, hK1, hD1⟩ := hB
          rw [ht] at hP1
          have hK1 := va_K.moved hvm.symm hK1
          obtain ⟨hP, hD⟩ := va_join (wr := []) (w1 := [(h_s, .inr (6, [.ref h_t, .ref q_n, .ref (adB v2), .int v3, .int v4, .int v5, .int v6, .int v7, .int v8, .int v9, .int v10, .int v11])), (q_n, .inl (c_i, 160, .inl v12))]) hP hD [0, 1] [] rfl rfl (by decide) (by decide) hk1 hFc hP1 hD1
          generalize H1 = H at hP hS ⊢
          have hP : va_P (dC, dI) vwCl [(h_s, .inr (6, [.ref h_t, .ref q_n, .ref (adB v2), .int v3, .int v4, .int v5, .int v6, .int v7, .int v8, .int v9, .int v10, .int v11])), (q_n, .inl (c_i, 160, .inl v12))] H := hP
          have hD : va_D A [(h_s, .inr (6, [.ref h_t, .ref q_n, .ref (adB v2), .int v3, .int v4, .int v5, .int v6, .int v7, .int v8, .int v9, .int v10, .int v11])), (q_n, .inl (c_i, 160, .inl v12))] := hD
          refine lv_if_ne (tgt := 183) hx hb px_d171_176 (by decide) (fun c176 => ?_) (fun c176 => ?_)
          · have hw := hw.1 c176
            refine lv_iconst (v := 0) hx hb px_d171_183 (by decide) ?_
            exact S184 a1x 0 v2 v3 v4 v5 v6 v7 v8 v9 v10 v11 v12 H locs ls hP hD hS (lv_sub hl [0, 1] rfl) hw
          · have hw := hw.2 c176
            exact S179 a1x v2 v3 v4 v5 v6 v7 v8 v9 v10 v11 v12 H locs ls hP hD hS (lv_sub hl [0, 1] rfl) hw
  by_cases t11_3 : (px_vs.getD (Int32.toNatClampNeg r7) 0) = 3
  · have hw := hw.2.2.1 t11_3
    refine lv_tableIn (off := 257) (tgt := 268) hx hb px_d171_11 (by rw [t11_3]; decide) (by rw [t11_3]; decide) (by rw [t11_3]; decide) (by decide) ?_
    refine lv_iconst (v := 0) hx hb px_d171_268 (by decide) ?_
    obtain ⟨hz9, hw⟩ := hw
    rw [← hQ]
    exact W.zret (v := 0) hx hb hr hz9 (fun t ht hW => ⟨⟨0, (s_verb, s_target, s_first, s_second, s_field, s_head, s_next, s_many, s_rows, s_even, g_n), rfl, hw, by rw [ht]; exact hP, va_K.moved hW.alike hK, hD⟩, hS.F ht⟩) hS.2.2 px_d171_269
  by_cases t11_4 : (px_vs.getD (Int32.toNatClampNeg r7) 0) = 4
  · have hw := hw.2.2.2.1 t11_4
    refine lv_tableIn (off := 214) (tgt := 225) hx hb px_d171_11 (by rw [t11_4]; decide) (by rw [t11_4]; decide) (by rw [t11_4]; decide) (by decide) ?_
    refine lv_aload_n hx hb px_d171_225 rfl (lv_at hl 0 rfl) ?_
    refine va_get (D := (dC, dI)) (ci := 6) (v := .int s_many) (C := "MatroidDesk$Statement") (T := px_T6) (N := 12) hx hb htw px_in6 hown hK hP 0 rfl rfl 9 (by decide) (htw _ px_w858) (fun _ h9 => h9) rfl px_d171_226 ?_
    refine lv_iload_n hx hb px_d171_229 rfl (lv_at hl 1 rfl) ?_
    refine lv_icmp_gt (tgt := 248) hx hb px_d171_230 (by decide) (fun c230 => ?_) (fun c230 => ?_)
    · have hw := hw.1 c230
      exact S248 a1x s_verb s_target s_first s_second s_field s_head s_next s_many s_rows s_even g_n H locs ls hP hD hS (lv_sub hl [0, 1] rfl) hw
    · have hw := hw.2 c230
      refine lv_aload_n hx hb px_d171_233 rfl (lv_at hl 0 rfl) ?_
      refine lv_iload_n hx hb px_d171_234 rfl (lv_at hl 1 rfl) ?_
      have hPc := hP.sub (ws' := [(h_s, .inr (6, [.ref h_t, .ref q_n, .ref (adB s_verb), .int s_target, .int s_first, .int s_second, .int s_field, .int s_head, .int s_next, .int s_many, .int s_rows, .int s_even])), (q_n, .inl (c_i, 160, .inl g_n))]) [0, 1] rfl
      have hDc := hD.sub (ws' := [(h_s, .inr (6, [.ref h_t, .ref q_n, .ref (adB s_verb), .int s_target, .int s_first, .int s_second, .int s_field, .int s_head, .int s_next, .int s_many, .int s_rows, .int s_even])), (q_n, .inl (c_i, 160, .inl g_n))]) [0, 1] (by decide) rfl
      have hKc := hK.sub (tys' := [(c_i, .int)]) [0] rfl
      have hFc := va_free (wc := [(h_s, .inr (6, [.ref h_t, .ref q_n, .ref (adB s_verb), .int s_target, .int s_first, .int s_second, .int s_field, .int s_head, .int s_next, .int s_many, .int s_rows, .int s_even])), (q_n, .inl (c_i, 160, .inl g_n))]) hD hS hA [0, 1] rfl
      refine va_calli (va_runV (As := [.int a1x]) (rest := []) ⟨hx, hb, hml, hown, htw⟩ (w173_met l dC dI H.size adB h_s h_t q_n c_i a1x s_verb s_target s_first s_second s_field s_head s_next s_many s_rows s_even g_n _ hw) (cwV 1 htw (px_gv px_w975 px_w980 px_w981 px_w74 px_g173) rfl rfl rfl (by decide +kernel) ⟨Nat.le_of_ble_eq_true rfl, Nat.le_of_ble_eq_true rfl⟩) ⟨fun a U g mk q => by obtain ⟨q0, q1, qP, qK, qD, qN⟩ := q; exact ⟨q0, q1, qP, va_K.moved (u := U) (U := U.calling g mk a) (Vm.Alike.refl U.vm) qK, qD, qN.same rfl⟩, va_recv hK hP (ci := 6) (q0 := 0) rfl rfl, fun U hU hW => ⟨rfl, by rw [hU], by rw [hU]; exact hPc, va_K.moved hW.alike hKc, hDc.weaken (fun _ _ _ _ => trivial), hN.warm hW⟩⟩ rfl rfl hl.1 rfl (lv_room (Nat.le_of_ble_eq_true rfl)) px_d171_235 ⟨(Nat.le_of_ble_eq_true rfl), (Nat.le_of_ble_eq_true rfl)⟩) hS (fun q _ h => hFc q h) hFc (fun r235 u t H1 locs ht hvm hw hB hz1 hk1 hS => ?_)
      obtain ⟨v13, v14, v15, v16, v17, v18, v19, v20, v21, v22, v23⟩ := u
      obtain ⟨hP1, hK1, hD1⟩ := hB
      rw [ht] at hP1
      have hK1 := va_K.moved hvm.symm hK1
      obtain ⟨hP, hD⟩ := va_join (wr := []) (w1 := [(h_s, .inr (6, [.ref h_t, .ref q_n, .ref (adB v13), .int v14, .int v15, .int v16, .int v17, .int v18, .int v19, .int v20, .int v21, .int v22])), (q_n, .inl (c_i, 160, .inl v23))]) hP hD [0, 1] [] rfl rfl (by decide) (by decide) hk1 hFc hP1 hD1
      generalize H1 = H at hP hS ⊢
      have hP : va_P (dC, dI) vwCl [(h_s, .inr (6, [.ref h_t, .ref q_n, .ref (adB v13), .int v14, .int v15, .int v16, .int v17, .int v18, .int v19, .int v20, .int v21, .int v22])), (q_n, .inl (c_i, 160, .inl v23))] H := hP
      have hD : va_D A [(h_s, .inr (6, [.ref h_t, .ref q_n, .ref (adB v13), .int v14, .int v15, .int v16, .int v17, .int v18, .int v19, .int v20, .int v21, .int v22])), (q_n, .inl (c_i, 160, .inl v23))] := hD
      refine lv_if_eq (tgt := 248) hx hb px_d171_238 (by decide) (fun c238 => ?_) (fun c238 => ?_)
      · have hw := hw.1 c238
        exact S248 a1x v13 v14 v15 v16 v17 v18 v19 v20 v21 v22 v23 H locs ls hP hD hS (lv_sub hl [0, 1] rfl) hw
      · have hw := hw.2 c238
        refine lv_aload_n hx hb px_d171_241 rfl (lv_at hl 0 rfl) ?_
        have hPc := hP.sub (ws' := [(h_s, .inr (6, [.ref h_t, .ref q_n, .ref (adB v13), .int v14, .int v15, .int v16, .int v17, .int v18, .int v19, .int v20, .int v21, .int v22])), (q_n, .inl (c_i, 160, .inl v23))]) [0, 1] rfl
        have hDc := hD.sub (ws' := [(h_s, .inr (6, [.ref h_t, .ref q_n, .ref (adB v13), .int v14, .int v15, .int v16, .int v17, .int v18, .int v19, .int v20, .int v21, .int v22])), (q_n, .inl (c_i, 160, .inl v23))]) [0, 1] (by decide) rfl
        have hKc := hK.sub (tys' := [(c_i, .int)]) [0] rfl
        have hFc := va_free (wc := [(h_s, .inr (6, [.ref h_t, .ref q_n, .ref (adB v13), .int v14, .int v15, .int v16, .int v17, .int v18, .int v19, .int v20, .int v21, .int v22])), (q_n, .inl (c_i, 160, .inl v23))]) hD hS hA [0, 1] rfl
        refine va_calli (va_runV (As := []) (rest := []) ⟨hx, hb, hml, hown, htw⟩ (w174_met l dC dI H.size adB h_s h_t q_n c_i v13 v14 v15 v16 v17 v18 v19 v20 v21 v22 v23 _ hw) (cwV 0 htw (px_gv px_w976 px_w983 px_w984 px_w74 px_g174) rfl rfl rfl (by decide +kernel) ⟨Nat.le_of_ble_eq_true rfl, Nat.le_of_ble_eq_true rfl⟩) ⟨fun a U g mk q => by obtain ⟨q0, q1, qP, qK, qD, qN⟩ := q; exact ⟨q0, q1, qP, va_K.moved (u := U) (U := U.calling g mk a) (Vm.Alike.refl U.vm) qK, qD, qN.same rfl⟩, va_recv hK hP (ci := 6) (q0 := 0) rfl rfl, fun U hU hW => ⟨rfl, by rw [hU], by rw [hU]; exact hPc, va_K.moved hW.alike hKc, hDc.weaken (fun _ _ _ _ => trivial), hN.warm hW⟩⟩ rfl rfl hl.1 rfl (lv_room (Nat.le_of_ble_eq_true rfl)) px_d171_242 ⟨(Nat.le_of_ble_eq_true rfl), (Nat.le_of_ble_eq_true rfl)⟩) hS (fun q _ h => hFc q h) hFc (fun r242 u t H1 locs ht hvm hw hB hz1 hk1 hS => ?_)
        obtain ⟨v24, v25, v26, v27, v28, v29, v30, v31, v32, v33, v34⟩ := u
        obtain ⟨hP1, hK1, hD1⟩ := hB
        rw [ht] at hP1
        have hK1 := va_K.moved hvm.symm hK1
        obtain ⟨hP, hD⟩ := va_join (wr := []) (w1 := [(h_s, .inr (6, [.ref h_t, .ref q_n, .ref (adB v24), .int v25, .int v26, .int v27, .int v28, .int v29, .int v30, .int v31, .int v32, .int v33])), (q_n, .inl (c_i, 160, .inl v34))]) hP hD [0, 1] [] rfl rfl (by decide) (by decide) hk1 hFc hP1 hD1
        generalize H1 = H at hP hS ⊢
        have hP : va_P (dC, dI) vwCl [(h_s, .inr (6, [.ref h_t, .ref q_n, .ref (adB v24), .int v25, .int v26, .int v27, .int v28, .int v29, .int v30, .int v31, .int v32, .int v33])), (q_n, .inl (c_i, 160, .inl v34))] H := hP
        have hD : va_D A [(h_s, .inr (6, [.ref h_t, .ref q_n, .ref (adB v24), .int v25, .int v26, .int v27, .int v28, .int v29, .int v30, .int v31, .int v32, .int v33])), (q_n, .inl (c_i, 160, .inl v34))] := hD
        refine lv_if_ne (tgt := 252) hx hb px_d171_245 (by decide) (fun c245 => ?_) (fun c245 => ?_)
        · have hw := hw.1 c245
          refine lv_iconst (v := 0) hx hb px_d171_252 (by decide) ?_
          exact S253 a1x 0 v24 v25 v26 v27 v28 v29 v30 v31 v32 v33 v34 H locs ls hP hD hS (lv_sub hl [0, 1] rfl) hw
        · have hw := hw.2 c245
          exact S248 a1x v24 v25 v26 v27 v28 v29 v30 v31 v32 v33 v34 H locs ls hP hD hS (lv_sub hl [0, 1] rfl) hw
  by_cases t11_5 : (px_vs.getD (Int32.toNatClampNeg r7) 0) = 5
  · have hw := hw.2.2.2.2.1 t11_5
    refine lv_tableIn (off := 214) (tgt := 225) hx hb px_d171_11 (by rw [t11_5]; decide) (by rw [t11_5]; decide) (by rw [t11_5]; decide) (by decide) ?_
    refine lv_aload_n hx hb px_d171_225 rfl (lv_at hl 0 rfl) ?_
    refine va_get (D := (dC, dI)) (ci := 6) (v := .int s_many) (C := "MatroidDesk$Statement") (T := px_T6) (N := 12) hx hb htw px_in6 hown hK hP 0 rfl rfl 9 (by decide) (htw _ px_w858) (fun _ h9 => h9) rfl px_d171_226 ?_
    refine lv_iload_n hx hb px_d171_229 rfl (lv_at hl 1 rfl) ?_
    refine lv_icmp_gt (tgt := 248) hx hb px_d171_230 (by decide) (fun c230 => ?_) (fun c230 => ?_)
    · have hw := hw.1 c230
      exact S248 a1x s_verb s_target s_first s_second s_field s_head s_next s_many s_rows s_even g_n H locs ls hP hD hS (lv_sub hl [0, 1] rfl) hw
    · have hw := hw.2 c230
      refine lv_aload_n hx hb px_d171_233 rfl (lv_at hl 0 rfl) ?_
      refine lv_iload_n hx hb px_d171_234 rfl (lv_at hl 1 rfl) ?_
      have hPc := hP.sub (ws' := [(h_s, .inr (6, [.ref h_t, .ref q_n, .ref (adB s_verb), .int s_target, .int s_first, .int s_second, .int s_field, .int s_head, .int s_next, .int s_many, .int s_rows, .int s_even])), (q_n, .inl (c_i, 160, .inl g_n))]) [0, 1] rfl
      have hDc := hD.sub (ws' := [(h_s, .inr (6, [.ref h_t, .ref q_n, .ref (adB s_verb), .int s_target, .int s_first, .int s_second, .int s_field, .int s_head, .int s_next, .int s_many, .int s_rows, .int s_even])), (q_n, .inl (c_i, 160, .inl g_n))]) [0, 1] (by decide) rfl
      have hKc := hK.sub (tys' := [(c_i, .int)]) [0] rfl
      have hFc := va_free (wc := [(h_s, .inr (6, [.ref h_t, .ref q_n, .ref (adB s_verb), .int s_target, .int s_first, .int s_second, .int s_field, .int s_head, .int s_next, .int s_many, .int s_rows, .int s_even])), (q_n, .inl (c_i, 160, .inl g_n))]) hD hS hA [0, 1] rfl
      refine va_calli (va_runV (As := [.int a1x]) (rest := []) ⟨hx, hb, hml, hown, htw⟩ (w173_met l dC dI H.size adB h_s h_t q_n c_i a1x s_verb s_target s_first s_second s_field s_head s_next s_many s_rows s_even g_n _ hw) (cwV 1 htw (px_gv px_w975 px_w980 px_w981 px_w74 px_g173) rfl rfl rfl (by decide +kernel) ⟨Nat.le_of_ble_eq_true rfl, Nat.le_of_ble_eq_true rfl⟩) ⟨fun a U g mk q => by obtain ⟨q0, q1, qP, qK, qD, qN⟩ := q; exact ⟨q0, q1, qP, va_K.moved (u := U) (U := U.calling g mk a) (Vm.Alike.refl U.vm) qK, qD, qN.same rfl⟩, va_recv hK hP (ci := 6) (q0 := 0) rfl rfl, fun U hU hW => ⟨rfl, by rw [hU], by rw [hU]; exact hPc, va_K.moved hW.alike hKc, hDc.weaken (fun _ _ _ _ => trivial), hN.warm hW⟩⟩ rfl rfl hl.1 rfl (lv_room (Nat.le_of_ble_eq_true rfl)) px_d171_235 ⟨(Nat.le_of_ble_eq_true rfl), (Nat.le_of_ble_eq_true rfl)⟩) hS (fun q _ h => hFc q h) hFc (fun r235 u t H1 locs ht hvm hw hB hz1 hk1 hS => ?_)
      obtain ⟨v35, v36, v37, v38, v39, v40, v41, v42, v43, v44, v45⟩ := u
      obtain ⟨hP1, hK1, hD1⟩ := hB
      rw [ht] at hP1
      have hK1 := va_K.moved hvm.symm hK1
      obtain ⟨hP, hD⟩ := va_join (wr := []) (w1 := [(h_s, .inr (6, [.ref h_t, .ref q_n, .ref (adB v35), .int v36, .int v37, .int v38, .int v39, .int v40, .int v41, .int v42, .int v43, .int v44])), (q_n, .inl (c_i, 160, .inl v45))]) hP hD [0, 1] [] rfl rfl (by decide) (by decide) hk1 hFc hP1 hD1
      generalize H1 = H at hP hS ⊢
      have hP : va_P (dC, dI) vwCl [(h_s, .inr (6, [.ref h_t, .ref q_n, .ref (adB v35), .int v36, .int v37, .int v38, .int v39, .int v40, .int v41, .int v42, .int v43, .int v44])), (q_n, .inl (c_i, 160, .inl v45))] H := hP
      have hD : va_D A [(h_s, .inr (6, [.ref h_t, .ref q_n, .ref (adB v35), .int v36, .int v37, .int v38, .int v39, .int v40, .int v41, .int v42, .int v43, .int v44])), (q_n, .inl (c_i, 160, .inl v45))] := hD
      refine lv_if_eq (tgt := 248) hx hb px_d171_238 (by decide) (fun c238 => ?_) (fun c238 => ?_)
      · have hw := hw.1 c238
        exact S248 a1x v35 v36 v37 v38 v39 v40 v41 v42 v43 v44 v45 H locs ls hP hD hS (lv_sub hl [0, 1] rfl) hw
      · have hw := hw.2 c238
        refine lv_aload_n hx hb px_d171_241 rfl (lv_at hl 0 rfl) ?_
        have hPc := hP.sub (ws' := [(h_s, .inr (6, [.ref h_t, .ref q_n, .ref (adB v35), .int v36, .int v37, .int v38, .int v39, .int v40, .int v41, .int v42, .int v43, .int v44])), (q_n, .inl (c_i, 160, .inl v45))]) [0, 1] rfl
        have hDc := hD.sub (ws' := [(h_s, .inr (6, [.ref h_t, .ref q_n, .ref (adB v35), .int v36, .int v37, .int v38, .int v39, .int v40, .int v41, .int v42, .int v43, .int v44])), (q_n, .inl (c_i, 160, .inl v45))]) [0, 1] (by decide) rfl
        have hKc := hK.sub (tys' := [(c_i, .int)]) [0] rfl
        have hFc := va_free (wc := [(h_s, .inr (6, [.ref h_t, .ref q_n, .ref (adB v35), .int v36, .int v37, .int v38, .int v39, .int v40, .int v41, .int v42, .int v43, .int v44])), (q_n, .inl (c_i, 160, .inl v45))]) hD hS hA [0, 1] rfl
        refine va_calli (va_runV (As := []) (rest := []) ⟨hx, hb, hml, hown, htw⟩ (w174_met l dC dI H.size adB h_s h_t q_n c_i v35 v36 v37 v38 v39 v40 v41 v42 v43 v44 v45 _ hw) (cwV 0 htw (px_gv px_w976 px_w983 px_w984 px_w74 px_g174) rfl rfl rfl (by decide +kernel) ⟨Nat.le_of_ble_eq_true rfl, Nat.le_of_ble_eq_true rfl⟩) ⟨fun a U g mk q => by obtain ⟨q0, q1, qP, qK, qD, qN⟩ := q; exact ⟨q0, q1, qP, va_K.moved (u := U) (U := U.calling g mk a) (Vm.Alike.refl U.vm) qK, qD, qN.same rfl⟩, va_recv hK hP (ci := 6) (q0 := 0) rfl rfl, fun U hU hW => ⟨rfl, by rw [hU], by rw [hU]; exact hPc, va_K.moved hW.alike hKc, hDc.weaken (fun _ _ _ _ => trivial), hN.warm hW⟩⟩ rfl rfl hl.1 rfl (lv_room (Nat.le_of_ble_eq_true rfl)) px_d171_242 ⟨(Nat.le_of_ble_eq_true rfl), (Nat.le_of_ble_eq_true rfl)⟩) hS (fun q _ h => hFc q h) hFc (fun r242 u t H1 locs ht hvm hw hB hz1 hk1 hS => ?_)
        obtain ⟨v46, v47, v48, v49, v50, v51, v52, v53, v54, v55, v56⟩ := u
        obtain ⟨hP1, hK1, hD1⟩ := hB
        rw [ht] at hP1
        have hK1 := va_K.moved hvm.symm hK1
        obtain ⟨hP, hD⟩ := va_join (wr := []) (w1 := [(h_s, .inr (6, [.ref h_t, .ref q_n, .ref (adB v46), .int v47, .int v48, .int v49, .int v50, .int v51, .int v52, .int v53, .int v54, .int v55])), (q_n, .inl (c_i, 160, .inl v56))]) hP hD [0, 1] [] rfl rfl (by decide) (by decide) hk1 hFc hP1 hD1
        generalize H1 = H at hP hS ⊢
        have hP : va_P (dC, dI) vwCl [(h_s, .inr (6, [.ref h_t, .ref q_n, .ref (adB v46), .int v47, .int v48, .int v49, .int v50, .int v51, .int v52, .int v53, .int v54, .int v55])), (q_n, .inl (c_i, 160, .inl v56))] H := hP
        have hD : va_D A [(h_s, .inr (6, [.ref h_t, .ref q_n, .ref (adB v46), .int v47, .int v48, .int v49, .int v50, .int v51, .int v52, .int v53, .int v54, .int v55])), (q_n, .inl (c_i, 160, .inl v56))] := hD
        refine lv_if_ne (tgt := 252) hx hb px_d171_245 (by decide) (fun c245 => ?_) (fun c245 => ?_)
        · have hw := hw.1 c245
          refine lv_iconst (v := 0) hx hb px_d171_252 (by decide) ?_
          exact S253 a1x 0 v46 v47 v48 v49 v50 v51 v52 v53 v54 v55 v56 H locs ls hP hD hS (lv_sub hl [0, 1] rfl) hw
        · have hw := hw.2 c245
          exact S248 a1x v46 v47 v48 v49 v50 v51 v52 v53 v54 v55 v56 H locs ls hP hD hS (lv_sub hl [0, 1] rfl) hw
  by_cases t11_6 : (px_vs.getD (Int32.toNatClampNeg r7) 0) = 6
  · have hw := hw.2.2.2.2.2.1 t11_6
    refine lv_tableIn (off := 243) (tgt := 254) hx hb px_d171_11 (by rw [t11_6]; decide) (by rw [t11_6]; decide) (by rw [t11_6]; decide) (by decide) ?_
    refine lv_aload_n hx hb px_d171_254 rfl (lv_at hl 0 rfl) ?_
    refine va_get (D := (dC, dI)) (ci := 6) (v := .int s_many) (C := "MatroidDesk$Statement") (T := px_T6) (N := 12) hx hb htw px_in6 hown hK hP 0 rfl rfl 9 (by decide) (htw _ px_w858) (fun _ h9 => h9) rfl px_d171_255 ?_
    refine lv_iload_n hx hb px_d171_258 rfl (lv_at hl 1 rfl) ?_
    refine lv_icmp_eq (tgt := 266) hx hb px_d171_259 (by decide) (fun c259 => ?_) (fun c259 => ?_)
    · have hw := hw.1 c259
      refine lv_iconst (v := 0) hx hb px_d171_266 (by decide) ?_
      exact S267 a1x 0 s_verb s_target s_first s_second s_field s_head s_next s_many s_rows s_even g_n H locs ls hP hD hS (lv_sub hl [0, 1] rfl) hw
    · have hw := hw.2 c259
      refine lv_iconst (v := 1) hx hb px_d171_262 (by decide) ?_
      refine lv_goto (tgt := 267) hx hb px_d171_263 (by decide) ?_
      exact S267 a1x 1 s_verb s_target s_first s_second s_field s_head s_next s_many s_rows s_even g_n H locs ls hP hD hS (lv_sub hl [0, 1] rfl) hw
  by_cases t11_7 : (px_vs.getD (Int32.toNatClampNeg r7) 0) = 7
  · have hw := hw.2.2.2.2.2.2.1 t11_7
    refine lv_tableIn (off := 257) (tgt := 268) hx hb px_d171_11 (by rw [t11_7]; decide) (by rw [t11_7]; decide) (by rw [t11_7]; decide) (by decide) ?_
    refine lv_iconst (v := 0) hx hb px_d171_268 (by decide) ?_
    obtain ⟨hz9, hw⟩ := hw
    rw [← hQ]
    exact W.zret (v := 0) hx hb hr hz9 (fun t ht hW => ⟨⟨0, (s_verb, s_target, s_first, s_second, s_field, s_head, s_next, s_many, s_rows, s_even, g_n), rfl, hw, by rw [ht]; exact hP, va_K.moved hW.alike hK, hD⟩, hS.F ht⟩) hS.2.2 px_d171_269
  by_cases t11_8 : (px_vs.getD (Int32.toNatClampNeg r7) 0) = 8
  · have hw := hw.2.2.2.2.2.2.2.1 t11_8
    refine lv_tableIn (off := 257) (tgt := 268) hx hb px_d171_11 (by rw [t11_8]; decide) (by rw [t11_8]; decide) (by rw [t11_8]; decide) (by decide) ?_
    refine lv_iconst (v := 0) hx hb px_d171_268 (by decide) ?_
    obtain ⟨hz9, hw⟩ := hw
    rw [← hQ]
    exact W.zret (v := 0) hx hb hr hz9 (fun t ht hW => ⟨⟨0, (s_verb, s_target, s_first, s_second, s_field, s_head, s_next, s_many, s_rows, s_even, g_n), rfl, hw, by rw [ht]; exact hP, va_K.moved hW.alike hK, hD⟩, hS.F ht⟩) hS.2.2 px_d171_269
  by_cases t11_9 : (px_vs.getD (Int32.toNatClampNeg r7) 0) = 9
  · have hw := hw.2.2.2.2.2.2.2.2.1 t11_9
    refine lv_tableIn (off := 257) (tgt := 268) hx hb px_d171_11 (by rw [t11_9]; decide) (by rw [t11_9]; decide) (by rw [t11_9]; decide) (by decide) ?_
    refine lv_iconst (v := 0) hx hb px_d171_268 (by decide) ?_
    obtain ⟨hz9, hw⟩ := hw
    rw [← hQ]
    exact W.zret (v := 0) hx hb hr hz9 (fun t ht hW => ⟨⟨0, (s_verb, s_target, s_first, s_second, s_field, s_head, s_next, s_many, s_rows, s_even, g_n), rfl, hw, by rw [ht]; exact hP, va_K.moved hW.alike hK, hD⟩, hS.F ht⟩) hS.2.2 px_d171_269
  by_cases t11_10 : (px_vs.getD (Int32.toNatClampNeg r7) 0) = 10
  · have hw := hw.2.2.2.2.2.2.2.2.2.1 t11_10
    refine lv_tableIn (off := 257) (tgt := 268) hx hb px_d171_11 (by rw [t11_10]; decide) (by rw [t11_10]; decide) (by rw [t11_10]; decide) (by decide) ?_
    refine lv_iconst (v := 0) hx hb px_d171_268 (by decide) ?_
    obtain ⟨hz9, hw⟩ := hw
    rw [← hQ]
    exact W.zret (v := 0) hx hb hr hz9 (fun t ht hW => ⟨⟨0, (s_verb, s_target, s_first, s_second, s_field, s_head, s_next, s_many, s_rows, s_even, g_n), rfl, hw, by rw [ht]; exact hP, va_K.moved hW.alike hK, hD⟩, hS.F ht⟩) hS.2.2 px_d171_269
  by_cases t11_11 : (px_vs.getD (Int32.toNatClampNeg r7) 0) = 11
  · have hw := hw.2.2.2.2.2.2.2.2.2.2.1 t11_11
    refine lv_tableIn (off := 257) (tgt := 268) hx hb px_d171_11 (by rw [t11_11]; decide) (by rw [t11_11]; decide) (by rw [t11_11]; decide) (by decide) ?_
    refine lv_iconst (v := 0) hx hb px_d171_268 (by decide) ?_
    obtain ⟨hz9, hw⟩ := hw
    rw [← hQ]
    exact W.zret (v := 0) hx hb hr hz9 (fun t ht hW => ⟨⟨0, (s_verb, s_target, s_first, s_second, s_field, s_head, s_next, s_many, s_rows, s_even, g_n), rfl, hw, by rw [ht]; exact hP, va_K.moved hW.alike hK, hD⟩, hS.F ht⟩) hS.2.2 px_d171_269
  by_cases t11_12 : (px_vs.getD (Int32.toNatClampNeg r7) 0) = 12
  · have hw := hw.2.2.2.2.2.2.2.2.2.2.2.1 t11_12
    refine lv_tableIn (off := 257) (tgt := 268) hx hb px_d171_11 (by rw [t11_12]; decide) (by rw [t11_12]; decide) (by rw [t11_12]; decide) (by decide) ?_
    refine lv_iconst (v := 0) hx hb px_d171_268 (by decide) ?_
    obtain ⟨hz9, hw⟩ := hw
    rw [← hQ]
    exact W.zret (v := 0) hx hb hr hz9 (fun t ht hW => ⟨⟨0, (s_verb, s_target, s_first, s_second, s_field, s_head, s_next, s_many, s_rows, s_even, g_n), rfl, hw, by rw [ht]; exact hP, va_K.moved hW.alike hK, hD⟩, hS.F ht⟩) hS.2.2 px_d171_269
  by_cases t11_13 : (px_vs.getD (Int32.toNatClampNeg r7) 0) = 13
  · have hw := hw.2.2.2.2.2.2.2.2.2.2.2.2.1 t11_13
    refine lv_tableIn (off := 257) (tgt := 268) hx hb px_d171_11 (by rw [t11_13]; decide) (by rw [t11_13]; decide) (by rw [t11_13]; decide) (by decide) ?_
    refine lv_iconst (v := 0) hx hb px_d171_268 (by decide) ?_
    obtain ⟨hz9, hw⟩ := hw
    rw [← hQ]
    exact W.zret (v := 0) hx hb hr hz9 (fun t ht hW => ⟨⟨0, (s_verb, s_target, s_first, s_second, s_field, s_head, s_next, s_many, s_rows, s_even, g_n), rfl, hw, by rw [ht]; exact hP, va_K.moved hW.alike hK, hD⟩, hS.F ht⟩) hS.2.2 px_d171_269
  by_cases t11_14 : (px_vs.getD (Int32.toNatClampNeg r7) 0) = 14
  · have hw := hw.2.2.2.2.2.2.2.2.2.2.2.2.2.1 t11_14
    refine lv_tableIn (off := 257) (tgt := 268) hx hb px_d171_11 (by rw [t11_14]; decide) (by rw [t11_14]; decide) (by rw [t11_14]; decide) (by decide) ?_
    refine lv_iconst (v := 0) hx hb px_d171_268 (by decide) ?_
    obtain ⟨hz9, hw⟩ := hw
    rw [← hQ]
    exact W.zret (v := 0) hx hb hr hz9 (fun t ht hW => ⟨⟨0, (s_verb, s_target, s_first, s_second, s_field, s_head, s_next, s_many, s_rows, s_even, g_n), rfl, hw, by rw [ht]; exact hP, va_K.moved hW.alike hK, hD⟩, hS.F ht⟩) hS.2.2 px_d171_269
  by_cases t11_15 : (px_vs.getD (Int32.toNatClampNeg r7) 0) = 15
  · have hw := hw.2.2.2.2.2.2.2.2.2.2.2.2.2.2.1 t11_15
    refine lv_tableIn (off := 257) (tgt := 268) hx hb px_d171_11 (by rw [t11_15]; decide) (by rw [t11_15]; decide) (by rw [t11_15]; decide) (by decide) ?_
    refine lv_iconst (v := 0) hx hb px_d171_268 (by decide) ?_
    obtain ⟨hz9, hw⟩ := hw
    rw [← hQ]
    exact W.zret (v := 0) hx hb hr hz9 (fun t ht hW => ⟨⟨0, (s_verb, s_target, s_first, s_second, s_field, s_head, s_next, s_many, s_rows, s_even, g_n), rfl, hw, by rw [ht]; exact hP, va_K.moved hW.alike hK, hD⟩, hS.F ht⟩) hS.2.2 px_d171_269
  by_cases t11_16 : (px_vs.getD (Int32.toNatClampNeg r7) 0) = 16
  · have hw := hw.2.2.2.2.2.2.2.2.2.2.2.2.2.2.2.1 t11_16
    refine lv_tableIn (off := 257) (tgt := 268) hx hb px_d171_11 (by rw [t11_16]; decide) (by rw [t11_16]; decide) (by rw [t11_16]; decide) (by decide) ?_
    refine lv_iconst (v := 0) hx hb px_d171_268 (by decide) ?_
    obtain ⟨hz9, hw⟩ := hw
    rw [← hQ]
    exact W.zret (v := 0) hx hb hr hz9 (fun t ht hW => ⟨⟨0, (s_verb, s_target, s_first, s_second, s_field, s_head, s_next, s_many, s_rows, s_even, g_n), rfl, hw, by rw [ht]; exact hP, va_K.moved hW.alike hK, hD⟩, hS.F ht⟩) hS.2.2 px_d171_269
  by_cases t11_17 : (px_vs.getD (Int32.toNatClampNeg r7) 0) = 17
  · have hw := hw.2.2.2.2.2.2.2.2.2.2.2.2.2.2.2.2.1 t11_17
    refine lv_tableIn (off := 257) (tgt := 268) hx hb px_d171_11 (by rw [t11_17]; decide) (by rw [t11_17]; decide) (by rw [t11_17]; decide) (by decide) ?_
    refine lv_iconst (v := 0) hx hb px_d171_268 (by decide) ?_
    obtain ⟨hz9, hw⟩ := hw
    rw [← hQ]
    exact W.zret (v := 0) hx hb hr hz9 (fun t ht hW => ⟨⟨0, (s_verb, s_target, s_first, s_second, s_field, s_head, s_next, s_many, s_rows, s_even, g_n), rfl, hw, by rw [ht]; exact hP, va_K.moved hW.alike hK, hD⟩, hS.F ht⟩) hS.2.2 px_d171_269
  by_cases t11_18 : (px_vs.getD (Int32.toNatClampNeg r7) 0) = 18
  · have hw := hw.2.2.2.2.2.2.2.2.2.2.2.2.2.2.2.2.2.1 t11_18
    refine lv_tableIn (off := 174) (tgt := 185) hx hb px_d171_11 (by rw [t11_18]; decide) (by rw [t11_18]; decide) (by rw [t11_18]; decide) (by decide) ?_
    refine lv_aload_n hx hb px_d171_185 rfl (lv_at hl 0 rfl) ?_
    refine va_get (D := (dC, dI)) (ci := 6) (v := .int s_next) (C := "MatroidDesk$Statement") (T := px_T6) (N := 12) hx hb htw px_in6 hown hK hP 0 rfl rfl 8 (by decide) (htw _ px_w937) (fun _ h9 => h9) rfl px_d171_186 ?_
    refine lv_if_lt (tgt := 219) hx hb px_d171_189 (by decide) (fun c189 => ?_) (fun c189 => ?_)
    · have hw := hw.1 c189
      exact S219 a1x s_verb s_target s_first s_second s_field s_head s_next s_many s_rows s_even g_n H locs ls hP hD hS (lv_sub hl [0, 1] rfl) hw
    · have hw := hw.2 c189
      refine lv_aload_n hx hb px_d171_192 rfl (lv_at hl 0 rfl) ?_
      refine va_get (D := (dC, dI)) (ci := 6) (v := .int s_next) (C := "MatroidDesk$Statement") (T := px_T6) (N := 12) hx hb htw px_in6 hown hK hP 0 rfl rfl 8 (by decide) (htw _ px_w937) (fun _ h9 => h9) rfl px_d171_193 ?_
      refine lv_bipush (v := 12) hx hb px_d171_196 (by decide) ?_
      refine lv_icmp_gt (tgt := 219) hx hb px_d171_198 (by decide) (fun c198 => ?_) (fun c198 => ?_)
      · have hw := hw.1 c198
        exact S219 a1x s_verb s_target s_first s_second s_field s_head s_next s_many s_rows s_even g_n H locs ls hP hD hS (lv_sub hl [0, 1] rfl) hw
      · have hw := hw.2 c198
        refine lv_aload_n hx hb px_d171_201 rfl (lv_at hl 0 rfl) ?_
        refine va_get (D := (dC, dI)) (ci := 6) (v := .int s_head) (C := "MatroidDesk$Statement") (T := px_T6) (N := 12) hx hb htw px_in6 hown hK hP 0 rfl rfl 7 (by decide) (htw _ px_w936) (fun _ h9 => h9) rfl px_d171_202 ?_
        refine lv_if_lt (tgt := 219) hx hb px_d171_205 (by decide) (fun c205 => ?_) (fun c205 => ?_)
        · have hw := hw.1 c205
          exact S219 a1x s_verb s_target s_first s_second s_field s_head s_next s_many s_rows s_even g_n H locs ls hP hD hS (lv_sub hl [0, 1] rfl) hw
        · have hw := hw.2 c205
          refine lv_aload_n hx hb px_d171_208 rfl (lv_at hl 0 rfl) ?_
          refine va_get (D := (dC, dI)) (ci := 6) (v := .int s_head) (C := "MatroidDesk$Statement") (T := px_T6) (N := 12) hx hb htw px_in6 hown hK hP 0 rfl rfl 7 (by decide) (htw _ px_w936) (fun _ h9 => h9) rfl px_d171_209 ?_
          refine lv_aload_n hx hb px_d171_212 rfl (lv_at hl 0 rfl) ?_
          refine va_get (D := (dC, dI)) (ci := 6) (v := .int s_next) (C := "MatroidDesk$Statement") (T := px_T6) (N := 12) hx hb htw px_in6 hown hK hP 0 rfl rfl 8 (by decide) (htw _ px_w937) (fun _ h9 => h9) rfl px_d171_213 ?_
          refine lv_icmp_le (tgt := 223) hx hb px_d171_216 (by decide) (fun c216 => ?_) (fun c216 => ?_)
          · have hw := hw.1 c216
            refine lv_iconst (v := 0) hx hb px_d171_223 (by decide) ?_
            exact S224 a1x 0 s_verb s_target s_first s_second s_field s_head s_next s_many s_rows s_even g_n H locs ls hP hD hS (lv_sub hl [0, 1] rfl) hw
          · have hw := hw.2 c216
            exact S219 a1x s_verb s_target s_first s_second s_field s_head s_next s_many s_rows s_even g_n H locs ls hP hD hS (lv_sub hl [0, 1] rfl) hw
  have hw := hw.2.2.2.2.2.2.2.2.2.2.2.2.2.2.2.2.2.2 t11_1 t11_2 t11_3 t11_4 t11_5 t11_6 t11_7 t11_8 t11_9 t11_10 t11_11 t11_12 t11_13 t11_14 t11_15 t11_16 t11_17 t11_18
  refine lv_tableOut (tgt := 268) hx hb px_d171_11 (px_tab (lo := 1) (hi := 18) (ks := [1, 2, 3, 4, 5, 6, 7, 8, 9, 10, 11, 12, 13, 14, 15, 16, 17, 18]) (by decide) (by intro k9 hk9; simp only [List.mem_cons, List.not_mem_nil, or_false] at hk9; rcases hk9 with rfl | rfl | rfl | rfl | rfl | rfl | rfl | rfl | rfl | rfl | rfl | rfl | rfl | rfl | rfl | rfl | rfl | rfl <;> assumption)) (by decide) ?_
  refine lv_iconst (v := 0) hx hb px_d171_268 (by decide) ?_
  obtain ⟨hz9, hw⟩ := hw
  rw [← hQ]
  exact W.zret (v := 0) hx hb hr hz9 (fun t ht hW => ⟨⟨0, (s_verb, s_target, s_first, s_second, s_field, s_head, s_next, s_many, s_rows, s_even, g_n), rfl, hw, by rw [ht]; exact hP, va_K.moved hW.alike hK, hD⟩, hS.F ht⟩) hS.2.2 px_d171_269

