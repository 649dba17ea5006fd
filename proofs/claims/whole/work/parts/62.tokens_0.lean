/-! MatroidDesk$Tokens.isLetter(I)Z -/
def w140_L29 (post : Int32 → Prop) (x0 : Int32) (y0 : Int32) : Prop := narrow .boolean (.int y0) = .int y0 ∧ post y0 
def w140_L28 (post : Int32 → Prop) (x0 : Int32) : Prop := w140_L29 post x0 0
def w140_L24 (post : Int32 → Prop) (x0 : Int32) : Prop := w140_L29 post x0 1
def w140_L12 (post : Int32 → Prop) (x0 : Int32) : Prop := (x0 < 65 → w140_L28 post x0) ∧ (¬ x0 < 65 → (90 < x0 → w140_L28 post x0) ∧ (¬ 90 < x0 → w140_L24 post x0))
def w140_wp (post : Int32 → Prop) (a0x : Int32) : Prop := (a0x < 97 → w140_L12 post a0x) ∧ (¬ a0x < 97 → (a0x ≤ 122 → w140_L24 post a0x) ∧ (¬ a0x ≤ 122 → w140_L12 post a0x))
set_option maxHeartbeats 8000000 in
set_option maxRecDepth 100000 in
theorem w140_met (l : Launch) (dC : Nat → ClassId) (dI : Nat → Nat → Nat) (sz : Nat) (a0x : Int32) (post : Int32 → Prop) (hw : w140_wp post a0x) : Met l px_y140 px_s140 ({ frames := 0, cells := 0, slots := 0, locals := 0 }) (va_Pc [.int a0x] (fun U => U.heap.size = sz ∧ va_P (dC, dI) vwCl [] U.heap ∧ va_K (dC, dI) vwCl [] U ∧ va_D (fun _ => True) [] ∧ px_N U)) (va_Qi (fun (r : Int32) (u : Unit) => post r ) (fun (u : Unit) (t : State) => va_P (dC, dI) vwCl [] t.heap ∧ va_K (dC, dI) vwCl [] t ∧ va_D (va_A [] sz) []) (va_A [] sz)) 0 0 (va_A [] sz) := by
  refine Met.ofW (cc := prog_10_method_9_code) (maxL := 1) (ret := (some .boolean)) (by decide) rfl ?_
  intro p e s m args below meth c s₁ B hml hv
  obtain ⟨rfl, hsz, hP, hK, hD0, hN⟩ := hv
  have hx := B.exec
  have hb := B.bytes
  have hr := B.returns
  have htw : ∀ w ∈ px_all, w.before _ s = true := fun w h => atoms_spec (ws := px_s140) B.pre w (List.mem_cons_of_mem _ h)
  have hown : s.vm.findClass "MatroidDesk$Tokens" = some m.cls := findClass_of_methodNamed B.named
  have hlocks := B.notSynchronized
  subst hsz
  have hD := hD0.self (sz := s.heap.size)
  generalize hAe : va_A [] s.heap.size = A at hD ⊢
  have hA : ∀ q : Nat, s.heap.size ≤ q → A q := fun q h => by rw [← hAe]; exact Or.inr h
  have hS : va_S A s.heap s.heap [] := va_S.rf
  have hP : va_P (dC, dI) vwCl [] s.heap := hP
  have hl := lv_entry ([.int a0x]) (n := 1) (Nat.le_of_ble_eq_true rfl)
  rw [lg_entry_eq]
  generalize (lg_sl ([.int a0x]) ++ List.replicate (1 - (lg_sl ([.int a0x])).length) Slot.unset).toArray = ls at hl ⊢
  have hl : lv_has ls 1 [(0, .int a0x)] := hl
  generalize hQ : MQ _ _ _ _ _ _ _ = Q
  have S29 : ∀ (x0 : Int32) (y0 : Int32) (H : Heap) (locs : List Loc) (ls : Array Slot), va_P (dC, dI) vwCl [] H → va_D A [] → va_S A s.heap H locs → lv_has ls 1 [(0, .int x0)] → w140_L29 post x0 y0 → W p l e (headSpec px_s140 ({ frames := 0, cells := 0, slots := 0, locals := 0 })).room s m ([.int a0x]).toArray below meth c H locs 0 0 Q (F0 m 29 ls [.int y0]) := by
    intro x0 y0 H locs ls hP hD hS hl hw
    unfold w140_L29 at hw
    obtain ⟨hz9, hw⟩ := hw
    rw [← hQ]
    exact W.zret (v := y0) hx hb hr hz9 (fun t ht hW => ⟨⟨y0, (), rfl, hw, by rw [ht]; exact hP, va_K.moved hW.alike hK, hD⟩, hS.F ht⟩) hS.2.2 px_d140_29
  have S28 : ∀ (x0 : Int32) (H : Heap) (locs : List Loc) (ls : Array Slot), va_P (dC, dI) vwCl [] H → va_D A [] → va_S A s.heap H locs → lv_has ls 1 [(0, .int x0)] → w140_L28 post x0 → W p l e (headSpec px_s140 ({ frames := 0, cells := 0, slots := 0, locals := 0 })).room s m ([.int a0x]).toArray below meth c H locs 0 0 Q (F0 m 28 ls []) := by
    intro x0 H locs ls hP hD hS hl hw
    unfold w140_L28 at hw
    refine lv_iconst (v := 0) hx hb px_d140_28 (by decide) ?_
    exact S29 x0 0 H locs ls hP hD hS (lv_sub hl [0] rfl) hw
  have S24 : ∀ (x0 : Int32) (H : Heap) (locs : List Loc) (ls : Array Slot), va_P (dC, dI) vwCl [] H → va_D A [] → va_S A s.heap H locs → lv_has ls 1 [(0, .int x0)] → w140_L24 post x0 → W p l e (headSpec px_s140 ({ frames := 0, cells := 0, slots := 0, locals := 0 })).room s m ([.int a0x]).toArray below meth c H locs 0 0 Q (F0 m 24 ls []) := by
    intro x0 H locs ls hP hD hS hl hw
    unfold w140_L24 at hw
    refine lv_iconst (v := 1) hx hb px_d140_24 (by decide) ?_
    refine lv_goto (tgt := 29) hx hb px_d140_25 (by decide) ?_
    exact S29 x0 1 H locs ls hP hD hS (lv_sub hl [0] rfl) hw
  have S12 : ∀ (x0 : Int32) (H : Heap) (locs : List Loc) (ls : Array Slot), va_P (dC, dI) vwCl [] H → va_D A [] → va_S A s.heap H locs → lv_has ls 1 [(0, .int x0)] → w140_L12 post x0 → W p l e (headSpec px_s140 ({ frames := 0, cells := 0, slots := 0, locals := 0 })).room s m ([.int a0x]).toArray below meth c H locs 0 0 Q (F0 m 12 ls []) := by
    intro x0 H locs ls hP hD hS hl hw
    unfold w140_L12 at hw
    refine lv_iload_n hx hb px_d140_12 rfl (lv_at hl 0 rfl) ?_
    refine lv_bipush (v := 65) hx hb px_d140_13 (by decide) ?_
    refine lv_icmp_lt (tgt := 28) hx hb px_d140_15 (by decide) (fun c15 => ?_) (fun c15 => ?_)
    · have hw := hw.1 c15
      exact S28 x0 H locs ls hP hD hS (lv_sub hl [0] rfl) hw
    · have hw := hw.2 c15
      refine lv_iload_n hx hb px_d140_18 rfl (lv_at hl 0 rfl) ?_
      refine lv_bipush (v := 90) hx hb px_d140_19 (by decide) ?_
      refine lv_icmp_gt (tgt := 28) hx hb px_d140_21 (by decide) (fun c21 => ?_) (fun c21 => ?_)
      · have hw := hw.1 c21
        exact S28 x0 H locs ls hP hD hS (lv_sub hl [0] rfl) hw
      · have hw := hw.2 c21
        exact S24 x0 H locs ls hP hD hS (lv_sub hl [0] rfl) hw
  unfold w140_wp at hw
  have hS0 := hS
  obtain ⟨H, hH9⟩ : ∃ z, z = s.heap := ⟨_, rfl⟩
  have hP : va_P (dC, dI) vwCl [] H := by rw [hH9]; exact hP
  obtain ⟨locs, hlo9⟩ : ∃ z : List Loc, z = [] := ⟨_, rfl⟩
  have hS : va_S A s.heap H locs := by rw [hH9, hlo9]; exact hS
  suffices hG : W p l e (headSpec px_s140 ({ frames := 0, cells := 0, slots := 0, locals := 0 })).room s m ([.int a0x]).toArray below meth c H locs 0 0 Q (F0 m 0 ls []) by rw [hH9, hlo9] at hG; exact hG
  refine lv_iload_n hx hb px_d140_0 rfl (lv_at hl 0 rfl) ?_
  refine lv_bipush (v := 97) hx hb px_d140_1 (by decide) ?_
  refine lv_icmp_lt (tgt := 12) hx hb px_d140_3 (by decide) (fun c3 => ?_) (fun c3 => ?_)
  · have hw := hw.1 c3
    exact S12 a0x H locs ls hP hD hS (lv_sub hl [0] rfl) hw
  · have hw := hw.2 c3
    refine lv_iload_n hx hb px_d140_6 rfl (lv_at hl 0 rfl) ?_
    refine lv_bipush (v := 122) hx hb px_d140_7 (by decide) ?_
    refine lv_icmp_le (tgt := 24) hx hb px_d140_9 (by decide) (fun c9 => ?_) (fun c9 => ?_)
    · have hw := hw.1 c9
      exact S24 a0x H locs ls hP hD hS (lv_sub hl [0] rfl) hw
    · have hw := hw.2 c9
      exact S12 a0x H locs ls hP hD hS (lv_sub hl [0] rfl) hw

/-! MatroidDesk$Tokens.isDigit(I)Z -/
def w142_L17 (post : Int32 → Prop) (x0 : Int32) (y0 : Int32) : Prop := narrow .boolean (.int y0) = .int y0 ∧ post y0 
def w142_L16 (post : Int32 → Prop) (x0 : Int32) : Prop := w142_L17 post x0 0
def w142_wp (post : Int32 → Prop) (a0x : Int32) : Prop := (a0x < 48 → w142_L16 post a0x) ∧ (¬ a0x < 48 → (57 < a0x → w142_L16 post a0x) ∧ (¬ 57 < a0x → w142_L17 post a0x 1))
set_option maxHeartbeats 8000000 in
set_option maxRecDepth 100000 in
theorem w142_met (l : Launch) (dC : Nat → ClassId) (dI : Nat → Nat → Nat) (sz : Nat) (a0x : Int32) (post : Int32 → Prop) (hw : w142_wp post a0x) : Met l px_y142 px_s142 ({ frames := 0, cells := 0, slots := 0, locals := 0 }) (va_Pc [.int a0x] (fun U => U.heap.size = sz ∧ va_P (dC, dI) vwCl [] U.heap ∧ va_K (dC, dI) vwCl [] U ∧ va_D (fun _ => True) [] ∧ px_N U)) (va_Qi (fun (r : Int32) (u : Unit) => post r ) (fun (u : Unit) (t : State) => va_P (dC, dI) vwCl [] t.heap ∧ va_K (dC, dI) vwCl [] t ∧ va_D (va_A [] sz) []) (va_A [] sz)) 0 0 (va_A [] sz) := by
  refine Met.ofW (cc := prog_10_method_10_code) (maxL := 1) (ret := (some .boolean)) (by decide) rfl ?_
  intro p e s m args below meth c s₁ B hml hv
  obtain ⟨rfl, hsz, hP, hK, hD0, hN⟩ := hv
  have hx := B.exec
  have hb := B.bytes
  have hr := B.returns
  have htw : ∀ w ∈ px_all, w.before _ s = true := fun w h => atoms_spec (ws := px_s142) B.pre w (List.mem_cons_of_mem _ h)
  have hown : s.vm.findClass "MatroidDesk$Tokens" = some m.cls := findClass_of_methodNamed B.named
  have hlocks := B.notSynchronized
  subst hsz
  have hD := hD0.self (sz := s.heap.size)
  generalize hAe : va_A [] s.heap.size = A at hD ⊢
  have hA : ∀ q : Nat, s.heap.size ≤ q → A q := fun q h => by rw [← hAe]; exact Or.inr h
  have hS : va_S A s.heap s.heap [] := va_S.rf
  have hP : va_P (dC, dI) vwCl [] s.heap := hP
  have hl := lv_entry ([.int a0x]) (n := 1) (Nat.le_of_ble_eq_true rfl)
  rw [lg_entry_eq]
  generalize (lg_sl ([.int a0x]) ++ List.replicate (1 - (lg_sl ([.int a0x])).length) Slot.unset).toArray = ls at hl ⊢
  have hl : lv_has ls 1 [(0, .int a0x)] := hl
  generalize hQ : MQ _ _ _ _ _ _ _ = Q
  have S17 : ∀ (x0 : Int32) (y0 : Int32) (H : Heap) (locs : List Loc) (ls : Array Slot), va_P (dC, dI) vwCl [] H → va_D A [] → va_S A s.heap H locs → lv_has ls 1 [(0, .int x0)] → w142_L17 post x0 y0 → W p l e (headSpec px_s142 ({ frames := 0, cells := 0, slots := 0, locals := 0 })).room s m ([.int a0x]).toArray below meth c H locs 0 0 Q (F0 m 17 ls [.int y0]) := by
    intro x0 y0 H locs ls hP hD hS hl hw
    unfold w142_L17 at hw
    obtain ⟨hz9, hw⟩ := hw
    rw [← hQ]
    exact W.zret (v := y0) hx hb hr hz9 (fun t ht hW => ⟨⟨y0, (), rfl, hw, by rw [ht]; exact hP, va_K.moved hW.alike hK, hD⟩, hS.F ht⟩) hS.2.2 px_d142_17
  have S16 : ∀ (x0 : Int32) (H : Heap) (locs : List Loc) (ls : Array Slot), va_P (dC, dI) vwCl [] H → va_D A [] → va_S A s.heap H locs → lv_has ls 1 [(0, .int x0)] → w142_L16 post x0 → W p l e (headSpec px_s142 ({ frames := 0, cells := 0, slots := 0, locals := 0 })).room s m ([.int a0x]).toArray below meth c H locs 0 0 Q (F0 m 16 ls []) := by
    intro x0 H locs ls hP hD hS hl hw
    unfold w142_L16 at hw
    refine lv_iconst (v := 0) hx hb px_d142_16 (by decide) ?_
    exact S17 x0 0 H locs ls hP hD hS (lv_sub hl [0] rfl) hw
  unfold w142_wp at hw
  have hS0 := hS
  obtain ⟨H, hH9⟩ : ∃ z, z = s.heap := ⟨_, rfl⟩
  have hP : va_P (dC, dI) vwCl [] H := by rw [hH9]; exact hP
  obtain ⟨locs, hlo9⟩ : ∃ z : List Loc, z = [] := ⟨_, rfl⟩
  have hS : va_S A s.heap H locs := by rw [hH9, hlo9]; exact hS
  suffices hG : W p l e (headSpec px_s142 ({ frames := 0, cells := 0, slots := 0, locals := 0 })).room s m ([.int a0x]).toArray below meth c H locs 0 0 Q (F0 m 0 ls []) by rw [hH9, hlo9] at hG; exact hG
  refine lv_iload_n hx hb px_d142_0 rfl (lv_at hl 0 rfl) ?_
  refine lv_bipush (v := 48) hx hb px_d142_1 (by decide) ?_
  refine lv_icmp_lt (tgt := 16) hx hb px_d142_3 (by decide) (fun c3 => ?_) (fun c3 => ?_)
  · have hw := hw.1 c3
    exact S16 a0x H locs ls hP hD hS (lv_sub hl [0] rfl) hw
  · have hw := hw.2 c3
    refine lv_iload_n hx hb px_d142_6 rfl (lv_at hl 0 rfl) ?_
    refine lv_bipush (v := 57) hx hb px_d142_7 (by decide) ?_
    refine lv_icmp_gt (tgt := 16) hx hb px_d142_9 (by decide) (fun c9 => ?_) (fun c9 => ?_)
    · have hw := hw.1 c9
      exact S16 a0x H locs ls hP hD hS (lv_sub hl [0] rfl) hw
    · have hw := hw.2 c9
      refine lv_iconst (v := 1) hx hb px_d142_12 (by decide) ?_
      refine lv_goto (tgt := 17) hx hb px_d142_13 (by decide) ?_
      exact S17 a0x 1 H locs ls hP hD hS (lv_sub hl [0] rfl) hw

/-! MatroidDesk$Tokens.skipBlanks()V -/
def w139_L74 (K2 : Int32 → Int32 → Int32 → Int32 → Int32 → Int32 → (Nat → Int32) → Prop) (n_s : Nat) (post : Int32 → Int32 → Int32 → Int32 → Int32 → (Nat → Int32) → Prop) (x1 : Int32) (x2 : Int32) (t_length : Int32) (t_behind : Int32) (t_start : Int32) (t_kind : Int32) (t_value : Int32) (g_s : Nat → Int32) : Prop := ∀ z1 : Int32, z1 = t_behind + 1 → K2 x1 t_length z1 t_start t_kind t_value g_s
def w139_L44 (K2 : Int32 → Int32 → Int32 → Int32 → Int32 → Int32 → (Nat → Int32) → Prop) (n_s : Nat) (post : Int32 → Int32 → Int32 → Int32 → Int32 → (Nat → Int32) → Prop) (x1 : Int32) (x2 : Int32) (y0 : Int32) (t_length : Int32) (t_behind : Int32) (t_start : Int32) (t_kind : Int32) (t_value : Int32) (g_s : Nat → Int32) : Prop := (¬ y0 = 0 → w139_L74 K2 n_s post y0 x2 t_length t_behind t_start t_kind t_value g_s) ∧ (y0 = 0 → (x2 = 32 → w139_L74 K2 n_s post y0 x2 t_length t_behind t_start t_kind t_value g_s) ∧ (¬ x2 = 32 → (x2 = 10 → w139_L74 K2 n_s post y0 x2 t_length t_behind t_start t_kind t_value g_s) ∧ (¬ x2 = 10 → (x2 = 13 → w139_L74 K2 n_s post y0 x2 t_length t_behind t_start t_kind t_value g_s) ∧ (¬ x2 = 13 → (x2 = 9 → w139_L74 K2 n_s post y0 x2 t_length t_behind t_start t_kind t_value g_s) ∧ (¬ x2 = 9 → post t_length t_behind t_start t_kind t_value g_s)))))
def w139_L43 (K2 : Int32 → Int32 → Int32 → Int32 → Int32 → Int32 → (Nat → Int32) → Prop) (n_s : Nat) (post : Int32 → Int32 → Int32 → Int32 → Int32 → (Nat → Int32) → Prop) (x1 : Int32) (x2 : Int32) (t_length : Int32) (t_behind : Int32) (t_start : Int32) (t_kind : Int32) (t_value : Int32) (g_s : Nat → Int32) : Prop := w139_L44 K2 n_s post x1 x2 0 t_length t_behind t_start t_kind t_value g_s
def w139_L39 (K2 : Int32 → Int32 → Int32 → Int32 → Int32 → Int32 → (Nat → Int32) → Prop) (n_s : Nat) (post : Int32 → Int32 → Int32 → Int32 → Int32 → (Nat → Int32) → Prop) (x1 : Int32) (x2 : Int32) (t_length : Int32) (t_behind : Int32) (t_start : Int32) (t_kind : Int32) (t_value : Int32) (g_s : Nat → Int32) : Prop := w139_L44 K2 n_s post x1 x2 1 t_length t_behind t_start t_kind t_value g_s
def w139_L2 (n_s : Nat) (post : Int32 → Int32 → Int32 → Int32 → Int32 → (Nat → Int32) → Prop) : Nat → Int32 → Int32 → Int32 → Int32 → Int32 → Int32 → (Nat → Int32) → Prop
  | 0 => fun _ _ _ _ _ _ _ => False
  | k + 1 => fun x1 t_length t_behind t_start t_kind t_value g_s => (t_length ≤ t_behind → post t_length t_behind t_start t_kind t_value g_s) ∧ (¬ t_length ≤ t_behind → vp_in t_behind n_s ∧ (∀ z2 : Int32, z2 = g_s (Int32.toNatClampNeg t_behind) → (z2 = 35 → w139_L39 (w139_L2 n_s post k) n_s post x1 z2 t_length t_behind t_start t_kind t_value g_s) ∧ (¬ z2 = 35 → (x1 = 0 → w139_L43 (w139_L2 n_s post k) n_s post x1 z2 t_length t_behind t_start t_kind t_value g_s) ∧ (¬ x1 = 0 → (z2 = 10 → w139_L43 (w139_L2 n_s post k) n_s post x1 z2 t_length t_behind t_start t_kind t_value g_s) ∧ (¬ z2 = 10 → w139_L39 (w139_L2 n_s post k) n_s post x1 z2 t_length t_behind t_start t_kind t_value g_s)))))
def w139_wp (n_s : Nat) (post : Int32 → Int32 → Int32 → Int32 → Int32 → (Nat → Int32) → Prop) (t_length : Int32) (t_behind : Int32) (t_start : Int32) (t_kind : Int32) (t_value : Int32) (g_s : Nat → Int32) : Prop := ∃ j2, w139_L2 n_s post j2 0 t_length t_behind t_start t_kind t_value g_s
set_option maxHeartbeats 8000000 in
set_option maxRecDepth 100000 in
theorem w139_met (l : Launch) (dC : Nat → ClassId) (dI : Nat → Nat → Nat) (sz : Nat) (h0 : Nat) (q0 : Nat) (n_s : Nat) (c_s : ClassId) (t_length : Int32) (t_behind : Int32) (t_start : Int32) (t_kind : Int32) (t_value : Int32) (g_s : Nat → Int32) (post : Int32 → Int32 → Int32 → Int32 → Int32 → (Nat → Int32) → Prop) (hw : w139_wp n_s post t_length t_behind t_start t_kind t_value g_s) : Met l px_y139 px_s139 ({ frames := 0, cells := 0, slots := 0, locals := 0 }) (va_Pc [.ref h0] (fun U => U.heap.size = sz ∧ va_P (dC, dI) vwCl [(h0, .inr (5, [.ref q0, .int t_length, .int t_behind, .int t_start, .int t_kind, .int t_value])), (q0, .inl (c_s, n_s, .inl g_s))] U.heap ∧ va_K (dC, dI) vwCl [(c_s, .byte)] U ∧ va_D (fun _ => True) [(h0, .inr (5, [.ref q0, .int t_length, .int t_behind, .int t_start, .int t_kind, .int t_value])), (q0, .inl (c_s, n_s, .inl g_s))] ∧ px_N U)) (va_Qv (fun (u : Int32 × Int32 × Int32 × Int32 × Int32 × (Nat → Int32)) => post u.1 u.2.1 u.2.2.1 u.2.2.2.1 u.2.2.2.2.1 u.2.2.2.2.2) (fun (u : Int32 × Int32 × Int32 × Int32 × Int32 × (Nat → Int32)) (t : State) => va_P (dC, dI) vwCl [(h0, .inr (5, [.ref q0, .int u.1, .int u.2.1, .int u.2.2.1, .int u.2.2.2.1, .int u.2.2.2.2.1])), (q0, .inl (c_s, n_s, .inl u.2.2.2.2.2))] t.heap ∧ va_K (dC, dI) vwCl [(c_s, .byte)] t ∧ va_D (va_A [(h0, .inr (5, [.ref q0, .int t_length, .int t_behind, .int t_start, .int t_kind, .int t_value])), (q0, .inl (c_s, n_s, .inl g_s))] sz) [(h0, .inr (5, [.ref q0, .int u.1, .int u.2.1, .int u.2.2.1, .int u.2.2.2.1, .int u.2.2.2.2.1])), (q0, .inl (c_s, n_s, .inl u.2.2.2.2.2))]) (va_A [(h0, .inr (5, [.ref q0, .int t_length, .int t_behind, .int t_start, .int t_kind, .int t_value])), (q0, .inl (c_s, n_s, .inl g_s))] sz)) 0 0 (va_A [(h0, .inr (5, [.ref q0, .int t_length, .int t_behind, .int t_start, .int t_kind, .int t_value])), (q0, .inl (c_s, n_s, .inl g_s))] sz) := by
  refine Met.ofW (cc := prog_10_method_6_code) (maxL := 3) (ret := none) (by decide) rfl ?_
  intro p e s m args below meth c s₁ B hml hv
  obtain ⟨rfl, hsz, hP, hK, hD0, hN⟩ := hv
  have hx := B.exec
  have hb := B.bytes
  have hr := B.returns
  have htw : ∀ w ∈ px_all, w.before _ s = true := fun w h => atoms_spec (ws := px_s139) B.pre w (List.mem_cons_of_mem _ h)
  have hown : s.vm.findClass "MatroidDesk$Tokens" = some m.cls := findClass_of_methodNamed B.named
  have hlocks := B.notSynchronized
  subst hsz
  have hD := hD0.self (sz := s.heap.size)
  generalize hAe : va_A [(h0, .inr (5, [.ref q0, .int t_length, .int t_behind, .int t_start, .int t_kind, .int t_value])), (q0, .inl (c_s, n_s, .inl g_s))] s.heap.size = A at hD ⊢
  have hA : ∀ q : Nat, s.heap.size ≤ q → A q := fun q h => by rw [← hAe]; exact Or.inr h
  have hS : va_S A s.heap s.heap [] := va_S.rf
  have hP : va_P (dC, dI) vwCl [(h0, .inr (5, [.ref q0, .int t_length, .int t_behind, .int t_start, .int t_kind, .int t_value])), (q0, .inl (c_s, n_s, .inl g_s))] s.heap := hP
  have hl := lv_entry ([.ref h0]) (n := 3) (Nat.le_of_ble_eq_true rfl)
  rw [lg_entry_eq]
  generalize (lg_sl ([.ref h0]) ++ List.replicate (3 - (lg_sl ([.ref h0])).length) Slot.unset).toArray = ls at hl ⊢
  have hl : lv_has ls 3 [(0, .ref h0)] := hl
  generalize hQ : MQ _ _ _ _ _ _ _ = Q
  have S2 : ∀ (k2 : Nat) (x1 : Int32) (t_length : Int32) (t_behind : Int32) (t_start : Int32) (t_kind : Int32) (t_value : Int32) (g_s : Nat → Int32) (H : Heap) (locs : List Loc) (ls : Array Slot), va_P (dC, dI) vwCl [(h0, .inr (5, [.ref q0, .int t_length, .int t_behind, .int t_start, .int t_kind, .int t_value])), (q0, .inl (c_s, n_s, .inl g_s))] H → va_D A [(h0, .inr (5, [.ref q0, .int t_length, .int t_behind, .int t_start, .int t_kind, .int t_value])), (q0, .inl (c_s, n_s, .inl g_s))] → va_S A s.heap H locs → lv_has ls 3 [(0, .ref h0), (1, .int x1)] → w139_L2 n_s post k2 x1 t_length t_behind t_start t_kind t_value g_s → W p l e (headSpec px_s139 ({ frames := 0, cells := 0, slots := 0, locals := 0 })).room s m ([.ref h0]).toArray below meth c H locs 0 0 Q (F0 m 2 ls []) := by
    intro k2
    induction k2 with
    | zero => intro x1 t_length t_behind t_start t_kind t_value g_s H locs ls hP hD hS hl hw; exact False.elim hw
    | succ k2 ih2 =>
      have S74 : ∀ (x1 : Int32) (x2 : Int32) (t_length : Int32) (t_behind : Int32) (t_start : Int32) (t_kind : Int32) (t_value : Int32) (g_s : Nat → Int32) (H : Heap) (locs : List Loc) (ls : Array Slot), va_P (dC, dI) vwCl [(h0, .inr (5, [.ref q0, .int t_length, .int t_behind, .int t_start, .int t_kind, .int t_value])), (q0, .inl (c_s, n_s, .inl g_s))] H → va_D A [(h0, .inr (5, [.ref q0, .int t_length, .int t_behind, .int t_start, .int t_kind, .int t_value])), (q0, .inl (c_s, n_s, .inl g_s))] → va_S A s.heap H locs → lv_has ls 3 [(0, .ref h0), (1, .int x1), (2, .int x2)] → w139_L74 (w139_L2 n_s post k2) n_s post x1 x2 t_length t_behind t_start t_kind t_value g_s → W p l e (headSpec px_s139 ({ frames := 0, cells := 0, slots := 0, locals := 0 })).room s m ([.ref h0]).toArray below meth c H locs 0 0 Q (F0 m 74 ls []) := by
        intro x1 x2 t_length t_behind t_start t_kind t_value g_s H locs ls hP hD hS hl hw
        unfold w139_L74 at hw
        refine lv_aload_n hx hb px_d139_74 rfl (lv_at hl 0 rfl) ?_
        refine lv_dup hx hb px_d139_75 rfl ?_
        refine va_get (D := (dC, dI)) (ci := 5) (v := .int t_behind) (C := "MatroidDesk$Tokens") (T := px_T5) (N := 6) hx hb htw px_in5 hown hK hP 0 rfl rfl 2 (by decide) (htw _ px_w827) (fun _ h9 => h9) rfl px_d139_76 ?_
        refine lv_iconst (v := 1) hx hb px_d139_79 (by decide) ?_
        refine lv_iadd hx hb px_d139_80 ?_
        refine lv_topi (fun z1 ez1 => ?_)
        have hw := hw z1 ez1
        refine va_put (D := (dC, dI)) (ci := 5) (v := .int z1) (ty := .int) (C := "MatroidDesk$Tokens") (T := px_T5) (N := 6) hx hb htw px_in5 px_ty5 px_tyok5 px_nm5 hown hK hP hD hS 0 rfl rfl 2 (by decide) (htw _ px_w827) (fun _ h9 => h9) rfl (by decide +kernel) rfl rfl (Nat.le_of_ble_eq_true rfl) px_d139_81 (fun H locs hP hD hS => ?_)
        have hP : va_P (dC, dI) vwCl [(h0, .inr (5, [.ref q0, .int t_length, .int z1, .int t_start, .int t_kind, .int t_value])), (q0, .inl (c_s, n_s, .inl g_s))] H := hP
        have hD : va_D A [(h0, .inr (5, [.ref q0, .int t_length, .int z1, .int t_start, .int t_kind, .int t_value])), (q0, .inl (c_s, n_s, .inl g_s))] := hD
        refine lv_goto (tgt := 2) hx hb px_d139_84 (by decide) ?_
        exact ih2 x1 t_length z1 t_start t_kind t_value g_s H locs ls hP hD hS (lv_sub hl [0, 1] rfl) hw
      have S44 : ∀ (x1 : Int32) (x2 : Int32) (y0 : Int32) (t_length : Int32) (t_behind : Int32) (t_start : Int32) (t_kind : Int32) (t_value : Int32) (g_s : Nat → Int32) (H : Heap) (locs : List Loc) (ls : Array Slot), va_P (dC, dI) vwCl [(h0, .inr (5, [.ref q0, .int t_length, .int t_behind, .int t_start, .int t_kind, .int t_value])), (q0, .inl (c_s, n_s, .inl g_s))] H → va_D A [(h0, .inr (5, [.ref q0, .int t_length, .int t_behind, .int t_start, .int t_kind, .int t_value])), (q0, .inl (c_s, n_s, .inl g_s))] → va_S A s.heap H locs → lv_has ls 3 [(0, .ref h0), (1, .int x1), (2, .int x2)] → w139_L44 (w139_L2 n_s post k2) n_s post x1 x2 y0 t_length t_behind t_start t_kind t_value g_s → W p l e (headSpec px_s139 ({ frames := 0, cells := 0, slots := 0, locals := 0 })).room s m ([.ref h0]).toArray below meth c H locs 0 0 Q (F0 m 44 ls [.int y0]) := by
        intro x1 x2 y0 t_length t_behind t_start t_kind t_value g_s H locs ls hP hD hS hl hw
        unfold w139_L44 at hw
        refine lv_istore_n (lv' := [(1, .int y0), (0, .ref h0), (2, .int x2)]) hx hb px_d139_44 rfl hl (by decide) rfl (fun ls hl => ?_)
        refine lv_iload_n hx hb px_d139_45 rfl (lv_at hl 0 rfl) ?_
        refine lv_if_ne (tgt := 74) hx hb px_d139_46 (by decide) (fun c46 => ?_) (fun c46 => ?_)
        · have hw := hw.1 c46
          exact S74 y0 x2 t_length t_behind t_start t_kind t_value g_s H locs ls hP hD hS (lv_sub hl [1, 0, 2] rfl) hw
        · have hw := hw.2 c46
          refine lv_iload_n hx hb px_d139_49 rfl (lv_at hl 2 rfl) ?_
          refine lv_bipush (v := 32) hx hb px_d139_50 (by decide) ?_
          refine lv_icmp_eq (tgt := 74) hx hb px_d139_52 (by decide) (fun c52 => ?_) (fun c52 => ?_)
          · have hw := hw.1 c52
            exact S74 y0 x2 t_length t_behind t_start t_kind t_value g_s H locs ls hP hD hS (lv_sub hl [1, 0, 2] rfl) hw
          · have hw := hw.2 c52
            refine lv_iload_n hx hb px_d139_55 rfl (lv_at hl 2 rfl) ?_
            refine lv_bipush (v := 10) hx hb px_d139_56 (by decide) ?_
            refine lv_icmp_eq (tgt := 74) hx hb px_d139_58 (by decide) (fun c58 => ?_) (fun c58 => ?_)
            · have hw := hw.1 c58
              exact S74 y0 x2 t_length t_behind t_start t_kind t_value g_s H locs ls hP hD hS (lv_sub hl [1, 0, 2] rfl) hw
            · have hw := hw.2 c58
              refine lv_iload_n hx hb px_d139_61 rfl (lv_at hl 2 rfl) ?_
              refine lv_bipush (v := 13) hx hb px_d139_62 (by decide) ?_
              refine lv_icmp_eq (tgt := 74) hx hb px_d139_64 (by decide) (fun c64 => ?_) (fun c64 => ?_)
              · have hw := hw.1 c64
                exact S74 y0 x2 t_length t_behind t_start t_kind t_value g_s H locs ls hP hD hS (lv_sub hl [1, 0, 2] rfl) hw
              · have hw := hw.2 c64
                refine lv_iload_n hx hb px_d139_67 rfl (lv_at hl 2 rfl) ?_
                refine lv_bipush (v := 9) hx hb px_d139_68 (by decide) ?_
                refine lv_icmp_eq (tgt := 74) hx hb px_d139_70 (by decide) (fun c70 => ?_) (fun c70 => ?_)
                · have hw := hw.1 c70
                  exact S74 y0 x2 t_length t_behind t_start t_kind t_value g_s H locs ls hP hD hS (lv_sub hl [1, 0, 2] rfl) hw
                · have hw := hw.2 c70
                  rw [← hQ]
                  exact W.vret hx hb hr (fun t ht hW => ⟨⟨(t_length, t_behind, t_start, t_kind, t_value, g_s), rfl, hw, by rw [ht]; exact hP, va_K.moved hW.alike hK, hD⟩, hS.F ht⟩) hS.2.2 px_d139_73
      have S43 : ∀ (x1 : Int32) (x2 : Int32) (t_length : Int32) (t_behind : Int32) (t_start : Int32) (t_kind : Int32) (t_value : Int32) (g_s : Nat → Int32) (H : Heap) (locs : List Loc) (ls : Array Slot), va_P (dC, dI) vwCl [(h0, .inr (5, [.ref q0, .int t_length, .int t_behind, .int t_start, .int t_kind, .int t_value])), (q0, .inl (c_s, n_s, .inl g_s))] H → va_D A [(h0, .inr (5, [.ref q0, .int t_length, .int t_behind, .int t_start, .int t_kind, .int t_value])), (q0, .inl (c_s, n_s, .inl g_s))] → va_S A s.heap H locs → lv_has ls 3 [(0, .ref h0), (1, .int x1), (2, .int x2)] → w139_L43 (w139_L2 n_s post k2) n_s post x1 x2 t_length t_behind t_start t_kind t_value g_s → W p l e (headSpec px_s139 ({ frames := 0, cells := 0, slots := 0, locals := 0 })).room s m ([.ref h0]).toArray below meth c H locs 0 0 Q (F0 m 43 ls []) := by
        intro x1 x2 t_length t_behind t_start t_kind t_value g_s H locs ls hP hD hS hl hw
        unfold w139_L43 at hw
        refine lv_iconst (v := 0) hx hb px_d139_43 (by decide) ?_
        exact S44 x1 x2 0 t_length t_behind t_start t_kind t_value g_s H locs ls hP hD hS (lv_sub hl [0, 1, 2] rfl) hw
      have S39 : ∀ (x1 : Int32) (x2 : Int32) (t_length : Int32) (t_behind : Int32) (t_start : Int32) (t_kind : Int32) (t_value : Int32) (g_s : Nat → Int32) (H : Heap) (locs : List Loc) (ls : Array Slot), va_P (dC, dI) vwCl [(h0, .inr (5, [.ref q0, .int t_length, .int t_behind, .int t_start, .int t_kind, .int t_value])), (q0, .inl (c_s, n_s, .inl g_s))] H → va_D A [(h0, .inr (5, [.ref q0, .int t_length, .int t_behind, .int t_start, .int t_kind, .int t_value])), (q0, .inl (c_s, n_s, .inl g_s))] → va_S A s.heap H locs → lv_has ls 3 [(0, .ref h0), (1, .int x1), (2, .int x2)] → w139_L39 (w139_L2 n_s post k2) n_s post x1 x2 t_length t_behind t_start t_kind t_value g_s → W p l e (headSpec px_s139 ({ frames := 0, cells := 0, slots := 0, locals := 0 })).room s m ([.ref h0]).toArray below meth c H locs 0 0 Q (F0 m 39 ls []) := by
        intro x1 x2 t_length t_behind t_start t_kind t_value g_s H locs ls hP hD hS hl hw
        unfold w139_L39 at hw
        refine lv_iconst (v := 1) hx hb px_d139_39 (by decide) ?_
        refine lv_goto (tgt := 44) hx hb px_d139_40 (by decide) ?_
        exact S44 x1 x2 1 t_length t_behind t_start t_kind t_value g_s H locs ls hP hD hS (lv_sub hl [0, 1, 2] rfl) hw
      intro x1 t_length t_behind t_start t_kind t_value g_s H locs ls hP hD hS hl hw
      unfold w139_L2 at hw
      refine lv_aload_n hx hb px_d139_2 rfl (lv_at hl 0 rfl) ?_
      refine va_get (D := (dC, dI)) (ci := 5) (v := .int t_behind) (C := "MatroidDesk$Tokens") (T := px_T5) (N := 6) hx hb htw px_in5 hown hK hP 0 rfl rfl 2 (by decide) (htw _ px_w827) (fun _ h9 => h9) rfl px_d139_3 ?_
      refine lv_aload_n hx hb px_d139_6 rfl (lv_at hl 0 rfl) ?_
      refine va_get (D := (dC, dI)) (ci := 5) (v := .int t_length) (C := "MatroidDesk$Tokens") (T := px_T5) (N := 6) hx hb htw px_in5 hown hK hP 0 rfl rfl 1 (by decide) (htw _ px_w826) (fun _ h9 => h9) rfl px_d139_7 ?_
      refine lv_icmp_ge (tgt := 87) hx hb px_d139_10 (by decide) (fun c10 => ?_) (fun c10 => ?_)
      · have hw := hw.1 c10
        rw [← hQ]
        exact W.vret hx hb hr (fun t ht hW => ⟨⟨(t_length, t_behind, t_start, t_kind, t_value, g_s), rfl, hw, by rw [ht]; exact hP, va_K.moved hW.alike hK, hD⟩, hS.F ht⟩) hS.2.2 px_d139_87
      · have hw := hw.2 c10
        refine lv_aload_n hx hb px_d139_13 rfl (lv_at hl 0 rfl) ?_
        refine va_get (D := (dC, dI)) (ci := 5) (v := .ref q0) (C := "MatroidDesk$Tokens") (T := px_T5) (N := 6) hx hb htw px_in5 hown hK hP 0 rfl rfl 0 (by decide) (htw _ px_w186) (fun _ h9 => h9) rfl px_d139_14 ?_
        refine lv_aload_n hx hb px_d139_17 rfl (lv_at hl 0 rfl) ?_
        refine va_get (D := (dC, dI)) (ci := 5) (v := .int t_behind) (C := "MatroidDesk$Tokens") (T := px_T5) (N := 6) hx hb htw px_in5 hown hK hP 0 rfl rfl 2 (by decide) (htw _ px_w827) (fun _ h9 => h9) rfl px_d139_18 ?_
        obtain ⟨hi21, hw⟩ := hw
        refine va_bald hx hb hK hP 1 0 rfl rfl hi21 px_d139_21 ?_
        refine lv_topi (fun z2 ez2 => ?_)
        have hw := hw z2 ez2
        refine lv_istore_n (lv' := [(2, .int z2), (0, .ref h0), (1, .int x1)]) hx hb px_d139_22 rfl hl (by decide) rfl (fun ls hl => ?_)
        refine lv_iload_n hx hb px_d139_23 rfl (lv_at hl 0 rfl) ?_
        refine lv_bipush (v := 35) hx hb px_d139_24 (by decide) ?_
        refine lv_icmp_eq (tgt := 39) hx hb px_d139_26 (by decide) (fun c26 => ?_) (fun c26 => ?_)
        · have hw := hw.1 c26
          exact S39 x1 z2 t_length t_behind t_start t_kind t_value g_s H locs ls hP hD hS (lv_sub hl [1, 2, 0] rfl) hw
        · have hw := hw.2 c26
          refine lv_iload_n hx hb px_d139_29 rfl (lv_at hl 2 rfl) ?_
          refine lv_if_eq (tgt := 43) hx hb px_d139_30 (by decide) (fun c30 => ?_) (fun c30 => ?_)
          · have hw := hw.1 c30
            exact S43 x1 z2 t_length t_behind t_start t_kind t_value g_s H locs ls hP hD hS (lv_sub hl [1, 2, 0] rfl) hw
          · have hw := hw.2 c30
            refine lv_iload_n hx hb px_d139_33 rfl (lv_at hl 0 rfl) ?_
            refine lv_bipush (v := 10) hx hb px_d139_34 (by decide) ?_
            refine lv_icmp_eq (tgt := 43) hx hb px_d139_36 (by decide) (fun c36 => ?_) (fun c36 => ?_)
            · have hw := hw.1 c36
              exact S43 x1 z2 t_length t_behind t_start t_kind t_value g_s H locs ls hP hD hS (lv_sub hl [1, 2, 0] rfl) hw
            · have hw := hw.2 c36
              exact S39 x1 z2 t_length t_behind t_start t_kind t_value g_s H locs ls hP hD hS (lv_sub hl [1, 2, 0] rfl) hw
  unfold w139_wp at hw
  have hS0 := hS
  obtain ⟨H, hH9⟩ : ∃ z, z = s.heap := ⟨_, rfl⟩
  have hP : va_P (dC, dI) vwCl [(h0, .inr (5, [.ref q0, .int t_length, .int t_behind, .int t_start, .int t_kind, .int t_value])), (q0, .inl (c_s, n_s, .inl g_s))] H := by rw [hH9]; exact hP
  obtain ⟨locs, hlo9⟩ : ∃ z : List Loc, z = [] := ⟨_, rfl⟩
  have hS : va_S A s.heap H locs := by rw [hH9, hlo9]; exact hS
  suffices hG : W p l e (headSpec px_s139 ({ frames := 0, cells := 0, slots := 0, locals := 0 })).room s m ([.ref h0]).toArray below meth c H locs 0 0 Q (F0 m 0 ls []) by rw [hH9, hlo9] at hG; exact hG
  refine lv_iconst (v := 0) hx hb px_d139_0 (by decide) ?_
  refine lv_istore_n (lv' := [(1, .int 0), (0, .ref h0)]) hx hb px_d139_1 rfl hl (by decide) rfl (fun ls hl => ?_)
  obtain ⟨k9, hw⟩ := hw
  exact S2 k9 0 t_length t_behind t_start t_kind t_value g_s H locs ls hP hD hS (lv_sub hl [1, 0] rfl) hw

/-! MatroidDesk$Tokens.takeWord()V -/
def w141_L44 (n_s : Nat) (post : Int32 → Int32 → Int32 → Int32 → Int32 → (Nat → Int32) → Prop) (t_length : Int32) (t_behind : Int32) (t_start : Int32) (t_kind : Int32) (t_value : Int32) (g_s : Nat → Int32) : Prop := post t_length t_behind t_start t_kind t_value g_s
def w141_L5 (n_s : Nat) (post : Int32 → Int32 → Int32 → Int32 → Int32 → (Nat → Int32) → Prop) : Nat → Int32 → Int32 → Int32 → Int32 → Int32 → (Nat → Int32) → Prop
  | 0 => fun _ _ _ _ _ _ => False
  | k + 1 => fun t_length t_behind t_start t_kind t_value g_s => (t_length ≤ t_behind → w141_L44 n_s post t_length t_behind t_start t_kind t_value g_s) ∧ (¬ t_length ≤ t_behind → vp_in t_behind n_s ∧ (w140_wp (fun r25  => (r25 = 0 → w141_L44 n_s post t_length t_behind t_start t_kind t_value g_s) ∧ (¬ r25 = 0 → ∀ z1 : Int32, z1 = t_behind + 1 → (w141_L5 n_s post k) t_length z1 t_start t_kind t_value g_s)) (g_s (Int32.toNatClampNeg t_behind))))
def w141_wp (n_s : Nat) (post : Int32 → Int32 → Int32 → Int32 → Int32 → (Nat → Int32) → Prop) (t_length : Int32) (t_behind : Int32) (t_start : Int32) (t_kind : Int32) (t_value : Int32) (g_s : Nat → Int32) : Prop := ∃ j5, w141_L5 n_s post j5 t_length t_behind t_start 2 t_value g_s
set_option maxHeartbeats 8000000 in
set_option maxRecDepth 100000 in
theorem w141_met (l : Launch) (dC : Nat → ClassId) (dI : Nat → Nat → Nat) (sz : Nat) (h0 : Nat) (q0 : Nat) (n_s : Nat) (c_s : ClassId) (t_length : Int32) (t_behind : Int32) (t_start : Int32) (t_kind : Int32) (t_value : Int32) (g_s : Nat → Int32) (post : Int32 → Int32 → Int32 → Int32 → Int32 → (Nat → Int32) → Prop) (hw : w141_wp n_s post t_length t_behind t_start t_kind t_value g_s) : Met l px_y141 px_s141 ({ frames := 1, cells := 0, slots := 0, locals := 20 }) (va_Pc [.ref h0] (fun U => U.heap.size = sz ∧ va_P (dC, dI) vwCl [(h0, .inr (5, [.ref q0, .int t_length, .int t_behind, .int t_start, .int t_kind, .int t_value])), (q0, .inl (c_s, n_s, .inl g_s))] U.heap ∧ va_K (dC, dI) vwCl [(c_s, .byte)] U ∧ va_D (fun _ => True) [(h0, .inr (5, [.ref q0, .int t_length, .int t_behind, .int t_start, .int t_kind, .int t_value])), (q0, .inl (c_s, n_s, .inl g_s))] ∧ px_N U)) (va_Qv (fun (u : Int32 × Int32 × Int32 × Int32 × Int32 × (Nat → Int32)) => post u.1 u.2.1 u.2.2.1 u.2.2.2.1 u.2.2.2.2.1 u.2.2.2.2.2) (fun (u : Int32 × Int32 × Int32 × Int32 × Int32 × (Nat → Int32)) (t : State) => va_P (dC, dI) vwCl [(h0, .inr (5, [.ref q0, .int u.1, .int u.2.1, .int u.2.2.1, .int u.2.2.2.1, .int u.2.2.2.2.1])), (q0, .inl (c_s, n_s, .inl u.2.2.2.2.2))] t.heap ∧ va_K (dC, dI) vwCl [(c_s, .byte)] t ∧ va_D (va_A [(h0, .inr (5, [.ref q0, .int t_length, .int t_behind, .int t_start, .int t_kind, .int t_value])), (q0, .inl (c_s, n_s, .inl g_s))] sz) [(h0, .inr (5, [.ref q0, .int u.1, .int u.2.1, .int u.2.2.1, .int u.2.2.2.1, .int u.2.2.2.2.1])), (q0, .inl (c_s, n_s, .inl u.2.2.2.2.2))]) (va_A [(h0, .inr (5, [.ref q0, .int t_length, .int t_behind, .int t_start, .int t_kind, .int t_value])), (q0, .inl (c_s, n_s, .inl g_s))] sz)) 0 0 (va_A [(h0, .inr (5, [.ref q0, .int t_length, .int t_behind, .int t_start, .int t_kind, .int t_value])), (q0, .inl (c_s, n_s, .inl g_s))] sz) := by
  refine Met.ofW (cc := prog_10_method_7_code) (maxL := 1) (ret := none) (by decide) rfl ?_
  intro p e s m args below meth c s₁ B hml hv
  obtain ⟨rfl, hsz, hP, hK, hD0, hN⟩ := hv
  have hx := B.exec
  have hb := B.bytes
  have hr := B.returns
  have htw : ∀ w ∈ px_all, w.before _ s = true := fun w h => atoms_spec (ws := px_s141) B.pre w (List.mem_cons_of_mem _ h)
  have hown : s.vm.findClass "MatroidDesk$Tokens" = some m.cls := findClass_of_methodNamed B.named
  have hlocks := B.notSynchronized
  subst hsz
  have hD := hD0.self (sz := s.heap.size)
  generalize hAe : va_A [(h0, .inr (5, [.ref q0, .int t_length, .int t_behind, .int t_start, .int t_kind, .int t_value])), (q0, .inl (c_s, n_s, .inl g_s))] s.heap.size = A at hD ⊢
  have hA : ∀ q : Nat, s.heap.size ≤ q → A q := fun q h => by rw [← hAe]; exact Or.inr h
  have hS : va_S A s.heap s.heap [] := va_S.rf
  have hP : va_P (dC, dI) vwCl [(h0, .inr (5, [.ref q0, .int t_length, .int t_behind, .int t_start, .int t_kind, .int t_value])), (q0, .inl (c_s, n_s, .inl g_s))] s.heap := hP
  have hl := lv_entry ([.ref h0]) (n := 1) (Nat.le_of_ble_eq_true rfl)
  rw [lg_entry_eq]
  generalize (lg_sl ([.ref h0]) ++ List.replicate (1 - (lg_sl ([.ref h0])).length) Slot.unset).toArray = ls at hl ⊢
  have hl : lv_has ls 1 [(0, .ref h0)] := hl
  generalize hQ : MQ _ _ _ _ _ _ _ = Q
  have S44 : ∀ (t_length : Int32) (t_behind : Int32) (t_start : Int32) (t_kind : Int32) (t_value : Int32) (g_s : Nat → Int32) (H : Heap) (locs : List Loc) (ls : Array Slot), va_P (dC, dI) vwCl [(h0, .inr (5, [.ref q0, .int t_length, .int t_behind, .int t_start, .int t_kind, .int t_value])), (q0, .inl (c_s, n_s, .inl g_s))] H → va_D A [(h0, .inr (5, [.ref q0, .int t_length, .int t_behind, .int t_start, .int t_kind, .int t_value])), (q0, .inl (c_s, n_s, .inl g_s))] → va_S A s.heap H locs → lv_has ls 1 [(0, .ref h0)] → w141_L44 n_s post t_length t_behind t_start t_kind t_value g_s → W p l e (headSpec px_s141 ({ frames := 1, cells := 0, slots := 0, locals := 20 })).room s m ([.ref h0]).toArray below meth c H locs 0 0 Q (F0 m 44 ls []) := by
    intro t_length t_behind t_start t_kind t_value g_s H locs ls hP hD hS hl hw
    unfold w141_L44 at hw
    rw [← hQ]
    exact W.vret hx hb hr (fun t ht hW => ⟨⟨(t_length, t_behind, t_start, t_kind, t_value, g_s), rfl, hw, by rw [ht]; exact hP, va_K.moved hW.alike hK, hD⟩, hS.F ht⟩) hS.2.2 px_d141_44
  have S5 : ∀ (k5 : Nat) (t_length : Int32) (t_behind : Int32) (t_start : Int32) (t_kind : Int32) (t_value : Int32) (g_s : Nat → Int32) (H : Heap) (locs : List Loc) (ls : Array Slot), va_P (dC, dI) vwCl [(h0, .inr (5, [.ref q0, .int t_length, .int t_behind, .int t_start, .int t_kind, .int t_value])), (q0, .inl (c_s, n_s, .inl g_s))] H → va_D A [(h0, .inr (5, [.ref q0, .int t_length, .int t_behind, .int t_start, .int t_kind, .int t_value])), (q0, .inl (c_s, n_s, .inl g_s))] → va_S A s.heap H locs → lv_has ls 1 [(0, .ref h0)] → w141_L5 n_s post k5 t_length t_behind t_start t_kind t_value g_s → W p l e (headSpec px_s141 ({ frames := 1, cells := 0, slots := 0, locals := 20 })).room s m ([.ref h0]).toArray below meth c H locs 0 0 Q (F0 m 5 ls []) := by
    intro k5
    induction k5 with
    | zero => intro t_length t_behind t_start t_kind t_value g_s H locs ls hP hD hS hl hw; exact False.elim hw
    | succ k5 ih5 =>
      intro t_length t_behind t_start t_kind t_value g_s H locs ls hP hD hS hl hw
      unfold w141_L5 at hw
      refine lv_aload_n hx hb px_d141_5 rfl (lv_at hl 0 rfl) ?_
      refine va_get (D := (dC, dI)) (ci := 5) (v := .int t_behind) (C := "MatroidDesk$Tokens") (T := px_T5) (N := 6) hx hb htw px_in5 hown hK hP 0 rfl rfl 2 (by decide) (htw _ px_w827) (fun _ h9 => h9) rfl px_d141_6 ?_
      refine lv_aload_n hx hb px_d141_9 rfl (lv_at hl 0 rfl) ?_
      refine va_get (D := (dC, dI)) (ci := 5) (v := .int t_length) (C := "MatroidDesk$Tokens") (T := px_T5) (N := 6) hx hb htw px_in5 hown hK hP 0 rfl rfl 1 (by decide) (htw _ px_w826) (fun _ h9 => h9) rfl px_d141_10 ?_
      refine lv_icmp_ge (tgt := 44) hx hb px_d141_13 (by decide) (fun c13 => ?_) (fun c13 => ?_)
      · have hw := hw.1 c13
        exact S44 t_length t_behind t_start t_kind t_value g_s H locs ls hP hD hS (lv_sub hl [0] rfl) hw
      · have hw := hw.2 c13
        refine lv_aload_n hx hb px_d141_16 rfl (lv_at hl 0 rfl) ?_
        refine va_get (D := (dC, dI)) (ci := 5) (v := .ref q0) (C := "MatroidDesk$Tokens") (T := px_T5) (N := 6) hx hb htw px_in5 hown hK hP 0 rfl rfl 0 (by decide) (htw _ px_w186) (fun _ h9 => h9) rfl px_d141_17 ?_
        refine lv_aload_n hx hb px_d141_20 rfl (lv_at hl 0 rfl) ?_
        refine va_get (D := (dC, dI)) (ci := 5) (v := .int t_behind) (C := "MatroidDesk$Tokens") (T := px_T5) (N := 6) hx hb htw px_in5 hown hK hP 0 rfl rfl 2 (by decide) (htw _ px_w827) (fun _ h9 => h9) rfl px_d141_21 ?_
        obtain ⟨hi24, hw⟩ := hw
        refine va_bald hx hb hK hP 1 0 rfl rfl hi24 px_d141_24 ?_
        have hPc := hP.sub (ws' := []) [] rfl
        have hDc := hD.sub (ws' := []) [] (by decide) rfl
        have hKc := hK.sub (tys' := []) [] rfl
        have hFc := va_free (wc := []) hD hS hA [] rfl
        refine va_calli (va_runS (As := [.int (g_s (Int32.toNatClampNeg t_behind))]) (rest := []) ⟨hx, hb, hml, hown, htw⟩ (w140_met l dC dI H.size (g_s (Int32.toNatClampNeg t_behind)) _ hw) (cwS 1 htw (px_gs px_w835 px_w843 px_w66 px_g140) rfl rfl rfl (by decide +kernel) ⟨Nat.le_of_ble_eq_true rfl, Nat.le_of_ble_eq_true rfl⟩) ⟨fun a U g mk q => by obtain ⟨q0, q1, qP, qK, qD, qN⟩ := q; exact ⟨q0, q1, qP, va_K.moved (u := U) (U := U.calling g mk a) (Vm.Alike.refl U.vm) qK, qD, qN.same rfl⟩, fun U hU hW => ⟨rfl, by rw [hU], by rw [hU]; exact hPc, va_K.moved hW.alike hKc, hDc.weaken (fun _ _ _ _ => trivial), hN.warm hW⟩⟩ rfl rfl hl.1 rfl (lv_room (Nat.le_of_ble_eq_true rfl)) px_d141_25 ⟨(Nat.le_of_ble_eq_true rfl), (Nat.le_of_ble_eq_true rfl)⟩) hS (fun q _ h => hFc q h) hFc (fun r25 u t H1 locs ht hvm hw hB hz1 hk1 hS => ?_)
        obtain ⟨hP1, hK1, hD1⟩ := hB
        rw [ht] at hP1
        have hK1 := va_K.moved hvm.symm hK1
        obtain ⟨hP, hD⟩ := va_join (wr := [(h0, .inr (5, [.ref q0, .int t_length, .int t_behind, .int t_start, .int t_kind, .int t_value])), (q0, .inl (c_s, n_s, .inl g_s))]) (w1 := []) hP hD [] [0, 1] rfl rfl (by decide) (by decide) hk1 hFc hP1 hD1
        generalize H1 = H at hP hS ⊢
        have hP : va_P (dC, dI) vwCl [(h0, .inr (5, [.ref q0, .int t_length, .int t_behind, .int t_start, .int t_kind, .int t_value])), (q0, .inl (c_s, n_s, .inl g_s))] H := hP
        have hD : va_D A [(h0, .inr (5, [.ref q0, .int t_length, .int t_behind, .int t_start, .int t_kind, .int t_value])), (q0, .inl (c_s, n_s, .inl g_s))] := hD
        refine lv_if_eq (tgt := 44) hx hb px_d141_28 (by decide) (fun c28 => ?_) (fun c28 => ?_)
        · have hw := hw.1 c28
          exact S44 t_length t_behind t_start t_kind t_value g_s H locs ls hP hD hS (lv_sub hl [0] rfl) hw
        · have hw := hw.2 c28
          refine lv_aload_n hx hb px_d141_31 rfl (lv_at hl 0 rfl) ?_
          refine lv_dup hx hb px_d141_32 rfl ?_
          refine va_get (D := (dC, dI)) (ci := 5) (v := .int t_behind) (C := "MatroidDesk$Tokens") (T := px_T5) (N := 6) hx hb htw px_in5 hown hK hP 0 rfl rfl 2 (by decide) (htw _ px_w827) (fun _ h9 => h9) rfl px_d141_33 ?_
          refine lv_iconst (v := 1) hx hb px_d141_36 (by decide) ?_
          refine lv_iadd hx hb px_d141_37 ?_
          refine lv_topi (fun z1 ez1 => ?_)
          have hw := hw z1 ez1
          refine va_put (D := (dC, dI)) (ci := 5) (v := .int z1) (ty := .int) (C := "MatroidDesk$Tokens") (T := px_T5) (N := 6) hx hb htw px_in5 px_ty5 px_tyok5 px_nm5 hown hK hP hD hS 0 rfl rfl 2 (by decide) (htw _ px_w827) (fun _ h9 => h9) rfl (by decide +kernel) rfl rfl (Nat.le_of_ble_eq_true rfl) px_d141_38 (fun H locs hP hD hS => ?_)
          have hP : va_P (dC, dI) vwCl [(h0, .inr (5, [.ref q0, .int t_length, .int z1, .int t_start, .int t_kind, .int t_value])), (q0, .inl (c_s, n_s, .inl g_s))] H := hP
          have hD : va_D A [(h0, .inr (5, [.ref q0, .int t_length, .int z1, .int t_start, .int t_kind, .int t_value])), (q0, .inl (c_s, n_s, .inl g_s))] := hD
          refine lv_goto (tgt := 5) hx hb px_d141_41 (by decide) ?_
          exact ih5 t_length z1 t_start t_kind t_value g_s H locs ls hP hD hS (lv_sub hl [0] rfl) hw
  unfold w141_wp at hw
  have hS0 := hS
  obtain ⟨H, hH9⟩ : ∃ z, z = s.heap := ⟨_, rfl⟩
  have hP : va_P (dC, dI) vwCl [(h0, .inr (5, [.ref q0, .int t_length, .int t_behind, .int t_start, .int t_kind, .int t_value])), (q0, .inl (c_s, n_s, .inl g_s))] H := by rw [hH9]; exact hP
  obtain ⟨locs, hlo9⟩ : ∃ z : List Loc, z = [] := ⟨_, rfl⟩
  have hS : va_S A s.heap H locs := by rw [hH9, hlo9]; exact hS
  suffices hG : W p l e (headSpec px_s141 ({ frames := 1, cells := 0, slots := 0, locals := 20 })).room s m ([.ref h0]).toArray below meth c H locs 0 0 Q (F0 m 0 ls []) by rw [hH9, hlo9] at hG; exact hG
  refine lv_aload_n hx hb px_d141_0 rfl (lv_at hl 0 rfl) ?_
  refine lv_iconst (v := 2) hx hb px_d141_1 (by decide) ?_
  refine va_put (D := (dC, dI)) (ci := 5) (v := .int 2) (ty := .int) (C := "MatroidDesk$Tokens") (T := px_T5) (N := 6) hx hb htw px_in5 px_ty5 px_tyok5 px_nm5 hown hK hP hD hS 0 rfl rfl 4 (by decide) (htw _ px_w834) (fun _ h9 => h9) rfl (by decide +kernel) rfl rfl (Nat.le_of_ble_eq_true rfl) px_d141_2 (fun H locs hP hD hS => ?_)
  have hP : va_P (dC, dI) vwCl [(h0, .inr (5, [.ref q0, .int t_length, .int t_behind, .int t_start, .int 2, .int t_value])), (q0, .inl (c_s, n_s, .inl g_s))] H := hP
  have hD : va_D A [(h0, .inr (5, [.ref q0, .int t_length, .int t_behind, .int t_start, .int 2, .int t_value])), (q0, .inl (c_s, n_s, .inl g_s))] := hD
  obtain ⟨k9, hw⟩ := hw
  exact S5 k9 t_length t_behind t_start 2 t_value g_s H locs ls hP hD hS (lv_sub hl [0] rfl) hw

/-! MatroidDesk$Tokens.takeNumber(I)V -/
def w143_L128 (n_s : Nat) (post : Int32 → Int32 → Int32 → Int32 → Int32 → (Nat → Int32) → Prop) (x1 : Int32) (x2 : Int32) (x3 : Int32) (y0 : Int32) (t_length : Int32) (t_behind : Int32) (t_start : Int32) (t_kind : Int32) (t_value : Int32) (g_s : Nat → Int32) : Prop := post t_length t_behind t_start t_kind y0 g_s
def w143_L112 (n_s : Nat) (post : Int32 → Int32 → Int32 → Int32 → Int32 → (Nat → Int32) → Prop) (x1 : Int32) (x2 : Int32) (x3 : Int32) (y0 : Int32) (t_length : Int32) (t_behind : Int32) (t_start : Int32) (t_kind : Int32) (t_value : Int32) (g_s : Nat → Int32) : Prop := (¬ x1 = 45 → w143_L128 n_s post x1 x2 x3 x3 t_length t_behind t_start y0 t_value g_s) ∧ (x1 = 45 → w143_L128 n_s post x1 x2 x3 (-x3) t_length t_behind t_start y0 t_value g_s)
def w143_L111 (n_s : Nat) (post : Int32 → Int32 → Int32 → Int32 → Int32 → (Nat → Int32) → Prop) (x1 : Int32) (x2 : Int32) (x3 : Int32) (t_length : Int32) (t_behind : Int32) (t_start : Int32) (t_kind : Int32) (t_value : Int32) (g_s : Nat → Int32) : Prop := w143_L112 n_s post x1 x2 x3 1 t_length t_behind t_start t_kind t_value g_s
def w143_L96 (n_s : Nat) (post : Int32 → Int32 → Int32 → Int32 → Int32 → (Nat → Int32) → Prop) (x1 : Int32) (x2 : Int32) (x3 : Int32) (t_length : Int32) (t_behind : Int32) (t_start : Int32) (t_kind : Int32) (t_value : Int32) (g_s : Nat → Int32) : Prop := (x2 < 1 → w143_L111 n_s post x1 x2 x3 t_length t_behind t_start t_kind t_value g_s) ∧ (¬ x2 < 1 → (3 < x2 → w143_L111 n_s post x1 x2 x3 t_length t_behind t_start t_kind t_value g_s) ∧ (¬ 3 < x2 → w143_L112 n_s post x1 x2 x3 3 t_length t_behind t_start t_kind t_value g_s))
def w143_L82 (K27 : Int32 → Int32 → Int32 → Int32 → Int32 → Int32 → Int32 → Int32 → (Nat → Int32) → Prop) (n_s : Nat) (post : Int32 → Int32 → Int32 → Int32 → Int32 → (Nat → Int32) → Prop) (x1 : Int32) (x2 : Int32) (x3 : Int32) (y0 : Int32) (t_length : Int32) (t_behind : Int32) (t_start : Int32) (t_kind : Int32) (t_value : Int32) (g_s : Nat → Int32) : Prop := ∀ z1 : Int32, z1 = t_behind + 1 → K27 x1 x2 y0 t_length z1 t_start t_kind t_value g_s
def w143_L27 (n_s : Nat) (post : Int32 → Int32 → Int32 → Int32 → Int32 → (Nat → Int32) → Prop) : Nat → Int32 → Int32 → Int32 → Int32 → Int32 → Int32 → Int32 → Int32 → (Nat → Int32) → Prop
  | 0 => fun _ _ _ _ _ _ _ _ _ => False
  | k + 1 => fun x1 x2 x3 t_length t_behind t_start t_kind t_value g_s => (t_length ≤ t_behind → w143_L96 n_s post x1 x2 x3 t_length t_behind t_start t_kind t_value g_s) ∧ (¬ t_length ≤ t_behind → vp_in t_behind n_s ∧ (w142_wp (fun r47  => (r47 = 0 → w143_L96 n_s post x1 x2 x3 t_length t_behind t_start t_kind t_value g_s) ∧ (¬ r47 = 0 → ∀ z2 : Int32, z2 = x2 + 1 → (z2 ≤ 3 → vp_in t_behind n_s ∧ (w143_L82 (w143_L27 n_s post k) n_s post x1 z2 x3 (((10 * x3) + (g_s (Int32.toNatClampNeg t_behind))) - 48) t_length t_behind t_start t_kind t_value g_s)) ∧ (¬ z2 ≤ 3 → w143_L82 (w143_L27 n_s post k) n_s post x1 z2 x3 0 t_length t_behind t_start t_kind t_value g_s))) (g_s (Int32.toNatClampNeg t_behind))))
def w143_L26 (n_s : Nat) (post : Int32 → Int32 → Int32 → Int32 → Int32 → (Nat → Int32) → Prop) (x1 : Int32) (x2 : Int32) (y0 : Int32) (t_length : Int32) (t_behind : Int32) (t_start : Int32) (t_kind : Int32) (t_value : Int32) (g_s : Nat → Int32) : Prop := ∃ j27, w143_L27 n_s post j27 x1 x2 y0 t_length t_behind t_start t_kind t_value g_s
def w143_L11 (n_s : Nat) (post : Int32 → Int32 → Int32 → Int32 → Int32 → (Nat → Int32) → Prop) (x1 : Int32) (y0 : Int32) (t_length : Int32) (t_behind : Int32) (t_start : Int32) (t_kind : Int32) (t_value : Int32) (g_s : Nat → Int32) : Prop := (¬ x1 = 45 → w143_L26 n_s post x1 y0 (x1 - 48) t_length t_behind t_start t_kind t_value g_s) ∧ (x1 = 45 → w143_L26 n_s post x1 y0 0 t_length t_behind t_start t_kind t_value g_s)
def w143_wp (n_s : Nat) (post : Int32 → Int32 → Int32 → Int32 → Int32 → (Nat → Int32) → Prop) (a1x : Int32) (t_length : Int32) (t_behind : Int32) (t_start : Int32) (t_kind : Int32) (t_value : Int32) (g_s : Nat → Int32) : Prop := (¬ a1x = 45 → w143_L11 n_s post a1x 1 t_length t_behind t_start t_kind t_value g_s) ∧ (a1x = 45 → w143_L11 n_s post a1x 0 t_length t_behind t_start t_kind t_value g_s)
set_option maxHeartbeats 8000000 in
set_option maxRecDepth 100000 in
theorem w143_met (l : Launch) (dC : Nat → ClassId) (dI : Nat → Nat → Nat) (sz : Nat) (h0 : Nat) (q0 : Nat) (n_s : Nat) (c_s : ClassId) (a1x : Int32) (t_length : Int32) (t_behind : Int32) (t_start : Int32) (t_kind : Int32) (t_value : Int32) (g_s : Nat → Int32) (post : Int32 → Int32 → Int32 → Int32 → Int32 → (Nat → Int32) → Prop) (hw : w143_wp n_s post a1x t_length t_behind t_start t_kind t_value g_s) : Met l px_y143 px_s143 ({ frames := 1, cells := 0, slots := 0, locals := 20 }) (va_Pc [.ref h0, .int a1x] (fun U => U.heap.size = sz ∧ va_P (dC, dI) vwCl [(h0, .inr (5, [.ref q0, .int t_length, .int t_behind, .int t_start, .int t_kind, .int t_value])), (q0, .inl (c_s, n_s, .inl g_s))] U.heap ∧ va_K (dC, dI) vwCl [(c_s, .byte)] U ∧ va_D (fun _ => True) [(h0, .inr (5, [.ref q0, .int t_length, .int t_behind, .int t_start, .int t_kind, .int t_value])), (q0, .inl (c_s, n_s, .inl g_s))] ∧ px_N U)) (va_Qv (fun (u : Int32 × Int32 × Int32 × Int32 × Int32 × (Nat → Int32)) => post u.1 u.2.1 u.2.2.1 u.2.2.2.1 u.2.2.2.2.1 u.2.2.2.2.2) (fun (u : Int32 × Int32 × Int32 × Int32 × Int32 × (Nat → Int32)) (t : State) => va_P (dC, dI) vwCl [(h0, .inr (5, [.ref q0, .int u.1, .int u.2.1, .int u.2.2.1, .int u.2.2.2.1, .int u.2.2.2.2.1])), (q0, .inl (c_s, n_s, .inl u.2.2.2.2.2))] t.heap ∧ va_K (dC, dI) vwCl [(c_s, .byte)] t ∧ va_D (va_A [(h0, .inr (5, [.ref q0, .int t_length, .int t_behind, .int t_start, .int t_kind, .int t_value])), (q0, .inl (c_s, n_s, .inl g_s))] sz) [(h0, .inr (5, [.ref q0, .int u.1, .int u.2.1, .int u.2.2.1, .int u.2.2.2.1, .int u.2.2.2.2.1])), (q0, .inl (c_s, n_s, .inl u.2.2.2.2.2))]) (va_A [(h0, .inr (5, [.ref q0, .int t_length, .int t_behind, .int t_start, .int t_kind, .int t_value])), (q0, .inl (c_s, n_s, .inl g_s))] sz)) 0 0 (va_A [(h0, .inr (5, [.ref q0, .int t_length, .int t_behind, .int t_start, .int t_kind, .int t_value])), (q0, .inl (c_s, n_s, .inl g_s))] sz) := by
  refine Met.ofW (cc := prog_10_method_8_code) (maxL := 4) (ret := none) (by decide) rfl ?_
  intro p e s m args below meth c s₁ B hml hv
  obtain ⟨rfl, hsz, hP, hK, hD0, hN⟩ := hv
  have hx := B.exec
  have hb := B.bytes
  have hr := B.returns
  have htw : ∀ w ∈ px_all, w.before _ s = true := fun w h => atoms_spec (ws := px_s143) B.pre w (List.mem_cons_of_mem _ h)
  have hown : s.vm.findClass "MatroidDesk$Tokens" = some m.cls := findClass_of_methodNamed B.named
  have hlocks := B.notSynchronized
  subst hsz
  have hD := hD0.self (sz := s.heap.size)
  generalize hAe : va_A [(h0, .inr (5, [.ref q0, .int t_length, .int t_behind, .int t_start, .int t_kind, .int t_value])), (q0, .inl (c_s, n_s, .inl g_s))] s.heap.size = A at hD ⊢
  have hA : ∀ q : Nat, s.heap.size ≤ q → A q := fun q h => by rw [← hAe]; exact Or.inr h
  have hS : va_S A s.heap s.heap [] := va_S.rf
  have hP : va_P (dC, dI) vwCl [(h0, .inr (5, [.ref q0, .int t_length, .int t_behind, .int t_start, .int t_kind, .int t_value])), (q0, .inl (c_s, n_s, .inl g_s))] s.heap := hP
  have hl := lv_entry ([.ref h0, .int a1x]) (n := 4) (Nat.le_of_ble_eq_true rfl)
  rw [lg_entry_eq]
  generalize (lg_sl ([.ref h0, .int a1x]) ++ List.replicate (4 - (lg_sl ([.ref h0, .int a1x])).length) Slot.unset).toArray = ls at hl ⊢
  have hl : lv_has ls 4 [(0, .ref h0), (1, .int a1x)] := hl
  generalize hQ : MQ _ _ _ _ _ _ _ = Q
  have S128 : ∀ (x1 : Int32) (x2 : Int32) (x3 : Int32) (y0 : Int32) (t_length : Int32) (t_behind : Int32) (t_start : Int32) (t_kind : Int32) (t_value : Int32) (g_s : Nat → Int32) (H : Heap) (locs : List Loc) (ls : Array Slot), va_P (dC, dI) vwCl [(h0, .inr (5, [.ref q0, .int t_length, .int t_behind, .int t_start, .int t_kind, .int t_value])), (q0, .inl (c_s, n_s, .inl g_s))] H → va_D A [(h0, .inr (5, [.ref q0, .int t_length, .int t_behind, .int t_start, .int t_kind, .int t_value])), (q0, .inl (c_s, n_s, .inl g_s))] → va_S A s.heap H locs → lv_has ls 4 [(0, .ref h0), (1, .int x1), (2, .int x2), (3, .int x3)] → w143_L128 n_s post x1 x2 x3 y0 t_length t_behind t_start t_kind t_value g_s → W p l e (headSpec px_s143 ({ frames := 1, cells := 0, slots := 0, locals := 20 })).room s m ([.ref h0, .int a1x]).toArray below meth c H locs 0 0 Q (F0 m 128 ls [.int y0, .ref h0]) := by
    intro x1 x2 x3 y0 t_length t_behind t_start t_kind t_value g_s H locs ls hP hD hS hl hw
    unfold w143_L128 at hw
    refine va_put (D := (dC, dI)) (ci := 5) (v := .int y0) (ty := .int) (C := "MatroidDesk$Tokens") (T := px_T5) (N := 6) hx hb htw px_in5 px_ty5 px_tyok5 px_nm5 hown hK hP hD hS 0 rfl rfl 5 (by decide) (htw _ px_w852) (fun _ h9 => h9) rfl (by decide +kernel) rfl rfl (Nat.le_of_ble_eq_true rfl) px_d143_128 (fun H locs hP hD hS => ?_)
    have hP : va_P (dC, dI) vwCl [(h0, .inr (5, [.ref q0, .int t_length, .int t_behind, .int t_start, .int t_kind, .int y0])), (q0, .inl (c_s, n_s, .inl g_s))] H := hP
    have hD : va_D A [(h0, .inr (5, [.ref q0, .int t_length, .int t_behind, .int t_start, .int t_kind, .int y0])), (q0, .inl (c_s, n_s, .inl g_s))] := hD
    rw [← hQ]
    exact W.vret hx hb hr (fun t ht hW => ⟨⟨(t_length, t_behind, t_start, t_kind, y0, g_s), rfl, hw, by rw [ht]; exact hP, va_K.moved hW.alike hK, hD⟩, hS.F ht⟩) hS.2.2 px_d143_131
  have S112 : ∀ (x1 : Int32) (x2 : Int32) (x3 : Int32) (y0 : Int32) (t_length : Int32) (t_behind : Int32) (t_start : Int32) (t_kind : Int32) (t_value : Int32) (g_s : Nat → Int32) (H : Heap) (locs : List Loc) (ls : Array Slot), va_P (dC, dI) vwCl [(h0, .inr (5, [.ref q0, .int t_length, .int t_behind, .int t_start, .int t_kind, .int t_value])), (q0, .inl (c_s, n_s, .inl g_s))] H → va_D A [(h0, .inr (5, [.ref q0, .int t_length, .int t_behind, .int t_start, .int t_kind, .int t_value])), (q0, .inl (c_s, n_s, .inl g_s))] → va_S A s.heap H locs → lv_has ls 4 [(0, .ref h0), (1, .int x1), (2, .int x2), (3, .int x3)] → w143_L112 n_s post x1 x2 x3 y0 t_length t_behind t_start t_kind t_value g_s → W p l e (headSpec px_s143 ({ frames := 1, cells := 0, slots := 0, locals := 20 })).room s m ([.ref h0, .int a1x]).toArray below meth c H locs 0 0 Q (F0 m 112 ls [.int y0, .ref h0]) := by
    intro x1 x2 x3 y0 t_length t_behind t_start t_kind t_value g_s H locs ls hP hD hS hl hw
    unfold w143_L112 at hw
    refine va_put (D := (dC, dI)) (ci := 5) (v := .int y0) (ty := .int) (C := "MatroidDesk$Tokens") (T := px_T5) (N := 6) hx hb htw px_in5 px_ty5 px_tyok5 px_nm5 hown hK hP hD hS 0 rfl rfl 4 (by decide) (htw _ px_w834) (fun _ h9 => h9) rfl (by decide +kernel) rfl rfl (Nat.le_of_ble_eq_true rfl) px_d143_112 (fun H locs hP hD hS => ?_)
    have hP : va_P (dC, dI) vwCl [(h0, .inr (5, [.ref q0, .int t_length, .int t_behind, .int t_start, .int y0, .int t_value])), (q0, .inl (c_s, n_s, .inl g_s))] H := hP
    have hD : va_D A [(h0, .inr (5, [.ref q0, .int t_length, .int t_behind, .int t_start, .int y0, .int t_value])), (q0, .inl (c_s, n_s, .inl g_s))] := hD
    refine lv_aload_n hx hb px_d143_115 rfl (lv_at hl 0 rfl) ?_
    refine lv_iload_n hx hb px_d143_116 rfl (lv_at hl 1 rfl) ?_
    refine lv_bipush (v := 45) hx hb px_d143_117 (by decide) ?_
    refine lv_icmp_ne (tgt := 127) hx hb px_d143_119 (by decide) (fun c119 => ?_) (fun c119 => ?_)
    · have hw := hw.1 c119
      refine lv_iload_n hx hb px_d143_127 rfl (lv_at hl 3 rfl) ?_
      exact S128 x1 x2 x3 x3 t_length t_behind t_start y0 t_value g_s H locs ls hP hD hS (lv_sub hl [0, 1, 2, 3] rfl) hw
    · have hw := hw.2 c119
      refine lv_iload_n hx hb px_d143_122 rfl (lv_at hl 3 rfl) ?_
      refine lv_ineg hx hb px_d143_123 ?_
      refine lv_goto (tgt := 128) hx hb px_d143_124 (by decide) ?_
      exact S128 x1 x2 x3 (-x3) t_length t_behind t_start y0 t_value g_s H locs ls hP hD hS (lv_sub hl [0, 1, 2, 3] rfl) hw
  have S111 : ∀ (x1 : Int32) (x2 : Int32) (x3 : Int32) (t_length : Int32) (t_behind : Int32) (t_start : Int32) (t_kind : Int32) (t_value : Int32) (g_s : Nat → Int32) (H : Heap) (locs : List Loc) (ls : Array Slot), va_P (dC, dI) vwCl [(h0, .inr (5, [.ref q0, .int t_length, .int t_behind, .int t_start, .int t_kind, .int t_value])), (q0, .inl (c_s, n_s, .inl g_s))] H → va_D A [(h0, .inr (5, [.ref q0, .int t_length, .int t_behind, .int t_start, .int t_kind, .int t_value])), (q0, .inl (c_s, n_s, .inl g_s))] → va_S A s.heap H locs → lv_has ls 4 [(0, .ref h0), (1, .int x1), (2, .int x2), (3, .int x3)] → w143_L111 n_s post x1 x2 x3 t_length t_behind t_start t_kind t_value g_s → W p l e (headSpec px_s143 ({ frames := 1, cells := 0, slots := 0, locals := 20 })).room s m ([.ref h0, .int a1x]).toArray below meth c H locs 0 0 Q (F0 m 111 ls [.ref h0]) := by
    intro x1 x2 x3 t_length t_behind t_start t_kind t_value g_s H locs ls hP hD hS hl hw
    unfold w143_L111 at hw
    refine lv_iconst (v := 1) hx hb px_d143_111 (by decide) ?_
    exact S112 x1 x2 x3 1 t_length t_behind t_start t_kind t_value g_s H locs ls hP hD hS (lv_sub hl [0, 1, 2, 3] rfl) hw
  have S96 : ∀ (x1 : Int32) (x2 : Int32) (x3 : Int32) (t_length : Int32) (t_behind : Int32) (t_start : Int32) (t_kind : Int32) (t_value : Int32) (g_s : Nat → Int32) (H : Heap) (locs : List Loc) (ls : Array Slot), va_P (dC, dI) vwCl [(h0, .inr (5, [.ref q0, .int t_length, .int t_behind, .int t_start, .int t_kind, .int t_value])), (q0, .inl (c_s, n_s, .inl g_s))] H → va_D A [(h0, .inr (5, [.ref q0, .int t_length, .int t_behind, .int t_start, .int t_kind, .int t_value])), (q0, .inl (c_s, n_s, .inl g_s))] → va_S A s.heap H locs → lv_has ls 4 [(0, .ref h0), (1, .int x1), (2, .int x2), (3, .int x3)] → w143_L96 n_s post x1 x2 x3 t_length t_behind t_start t_kind t_value g_s → W p l e (headSpec px_s143 ({ frames := 1, cells := 0, slots := 0, locals := 20 })).room s m ([.ref h0, .int a1x]).toArray below meth c H locs 0 0 Q (F0 m 96 ls []) := by
    intro x1 x2 x3 t_length t_behind t_start t_kind t_value g_s H locs ls hP hD hS hl hw
    unfold w143_L96 at hw
    refine lv_aload_n hx hb px_d143_96 rfl (lv_at hl 0 rfl) ?_
    refine lv_iload_n hx hb px_d143_97 rfl (lv_at hl 2 rfl) ?_
    refine lv_iconst (v := 1) hx hb px_d143_98 (by decide) ?_
    refine lv_icmp_lt (tgt := 111) hx hb px_d143_99 (by decide) (fun c99 => ?_) (fun c99 => ?_)
    · have hw := hw.1 c99
      exact S111 x1 x2 x3 t_length t_behind t_start t_kind t_value g_s H locs ls hP hD hS (lv_sub hl [0, 1, 2, 3] rfl) hw
    · have hw := hw.2 c99
      refine lv_iload_n hx hb px_d143_102 rfl (lv_at hl 2 rfl) ?_
      refine lv_iconst (v := 3) hx hb px_d143_103 (by decide) ?_
      refine lv_icmp_gt (tgt := 111) hx hb px_d143_104 (by decide) (fun c104 => ?_) (fun c104 => ?_)
      · have hw := hw.1 c104
        exact S111 x1 x2 x3 t_length t_behind t_start t_kind t_value g_s H locs ls hP hD hS (lv_sub hl [0, 1, 2, 3] rfl) hw
      · have hw := hw.2 c104
        refine lv_iconst (v := 3) hx hb px_d143_107 (by decide) ?_
        refine lv_goto (tgt := 112) hx hb px_d143_108 (by decide) ?_
        exact S112 x1 x2 x3 3 t_length t_behind t_start t_kind t_value g_s H locs ls hP hD hS (lv_sub hl [0, 1, 2, 3] rfl) hw
  have S27 : ∀ (k27 : Nat) (x1 : Int32) (x2 : Int32) (x3 : Int32) (t_length : Int32) (t_behind : Int32) (t_start : Int32) (t_kind : Int32) (t_value : Int32) (g_s : Nat → Int32) (H : Heap) (locs : List Loc) (ls : Array Slot), va_P (dC, dI) vwCl [(h0, .inr (5, [.ref q0, .int t_length, .int t_behind, .int t_start, .int t_kind, .int t_value])), (q0, .inl (c_s, n_s, .inl g_s))] H → va_D A [(h0, .inr (5, [.ref q0, .int t_length, .int t_behind, .int t_start, .int t_kind, .int t_value])), (q0, .inl (c_s, n_s, .inl g_s))] → va_S A s.heap H locs → lv_has ls 4 [(0, .ref h0), (1, .int x1), (2, .int x2), (3, .int x3)] → w143_L27 n_s post k27 x1 x2 x3 t_length t_behind t_start t_kind t_value g_s → W p l e (headSpec px_s143 ({ frames := 1, cells := 0, slots := 0, locals := 20 })).room s m ([.ref h0, .int a1x]).toArray below meth c H locs 0 0 Q (F0 m 27 ls []) := by
    intro k27
    induction k27 with
    | zero => intro x1 x2 x3 t_length t_behind t_start t_kind t_value g_s H locs ls hP hD hS hl hw; exact False.elim hw
    | succ k27 ih27 =>
      have S82 : ∀ (x1 : Int32) (x2 : Int32) (x3 : Int32) (y0 : Int32) (t_length : Int32) (t_behind : Int32) (t_start : Int32) (t_kind : Int32) (t_value : Int32) (g_s : Nat → Int32) (H : Heap) (locs : List Loc) (ls : Array Slot), va_P (dC, dI) vwCl [(h0, .inr (5, [.ref q0, .int t_length, .int t_behind, .int t_start, .int t_kind, .int t_value])), (q0, .inl (c_s, n_s, .inl g_s))] H → va_D A [(h0, .inr (5, [.ref q0, .int t_length, .int t_behind, .int t_start, .int t_kind, .int t_value])), (q0, .inl (c_s, n_s, .inl g_s))] → va_S A s.heap H locs → lv_has ls 4 [(0, .ref h0), (1, .int x1), (2, .int x2), (3, .int x3)] → w143_L82 (w143_L27 n_s post k27) n_s post x1 x2 x3 y0 t_length t_behind t_start t_kind t_value g_s → W p l e (headSpec px_s143 ({ frames := 1, cells := 0, slots := 0, locals := 20 })).room s m ([.ref h0, .int a1x]).toArray below meth c H locs 0 0 Q (F0 m 82 ls [.int y0]) := by
        intro x1 x2 x3 y0 t_length t_behind t_start t_kind t_value g_s H locs ls hP hD hS hl hw
        unfold w143_L82 at hw
        refine lv_istore_n (lv' := [(3, .int y0), (0, .ref h0), (1, .int x1), (2, .int x2)]) hx hb px_d143_82 rfl hl (by decide) rfl (fun ls hl => ?_)
        refine lv_aload_n hx hb px_d143_83 rfl (lv_at hl 1 rfl) ?_
        refine lv_dup hx hb px_d143_84 rfl ?_
        refine va_get (D := (dC, dI)) (ci := 5) (v := .int t_behind) (C := "MatroidDesk$Tokens") (T := px_T5) (N := 6) hx hb htw px_in5 hown hK hP 0 rfl rfl 2 (by decide) (htw _ px_w827) (fun _ h9 => h9) rfl px_d143_85 ?_
        refine lv_iconst (v := 1) hx hb px_d143_88 (by decide) ?_
        refine lv_iadd hx hb px_d143_89 ?_
        refine lv_topi (fun z1 ez1 => ?_)
        have hw := hw z1 ez1
        refine va_put (D := (dC, dI)) (ci := 5) (v := .int z1) (ty := .int) (C := "MatroidDesk$Tokens") (T := px_T5) (N := 6) hx hb htw px_in5 px_ty5 px_tyok5 px_nm5 hown hK hP hD hS 0 rfl rfl 2 (by decide) (htw _ px_w827) (fun _ h9 => h9) rfl (by decide +kernel) rfl rfl (Nat.le_of_ble_eq_true rfl) px_d143_90 (fun H locs hP hD hS => ?_)
        have hP : va_P (dC, dI) vwCl [(h0, .inr (5, [.ref q0, .int t_length, .int z1, .int t_start, .int t_kind, .int t_value])), (q0, .inl (c_s, n_s, .inl g_s))] H := hP
        have hD : va_D A [(h0, .inr (5, [.ref q0, .int t_length, .int z1, .int t_start, .int t_kind, .int t_value])), (q0, .inl (c_s, n_s, .inl g_s))] := hD
        refine lv_goto (tgt := 27) hx hb px_d143_93 (by decide) ?_
        exact ih27 x1 x2 y0 t_length z1 t_start t_kind t_value g_s H locs ls hP hD hS (lv_sub hl [1, 2, 3, 0] rfl) hw
      intro x1 x2 x3 t_length t_behind t_start t_kind t_value g_s H locs ls hP hD hS hl hw
      unfold w143_L27 at hw
      refine lv_aload_n hx hb px_d143_27 rfl (lv_at hl 0 rfl) ?_
      refine va_get (D := (dC, dI)) (ci := 5) (v := .int t_behind) (C := "MatroidDesk$Tokens") (T := px_T5) (N := 6) hx hb htw px_in5 hown hK hP 0 rfl rfl 2 (by decide) (htw _ px_w827) (fun _ h9 => h9) rfl px_d143_28 ?_
      refine lv_aload_n hx hb px_d143_31 rfl (lv_at hl 0 rfl) ?_
      refine va_get (D := (dC, dI)) (ci := 5) (v := .int t_length) (C := "MatroidDesk$Tokens") (T := px_T5) (N := 6) hx hb htw px_in5 hown hK hP 0 rfl rfl 1 (by decide) (htw _ px_w826) (fun _ h9 => h9) rfl px_d143_32 ?_
      refine lv_icmp_ge (tgt := 96) hx hb px_d143_35 (by decide) (fun c35 => ?_) (fun c35 => ?_)
      · have hw := hw.1 c35
        exact S96 x1 x2 x3 t_length t_behind t_start t_kind t_value g_s H locs ls hP hD hS (lv_sub hl [0, 1, 2, 3] rfl) hw
      · have hw := hw.2 c35
        refine lv_aload_n hx hb px_d143_38 rfl (lv_at hl 0 rfl) ?_
        refine va_get (D := (dC, dI)) (ci := 5) (v := .ref q0) (C := "MatroidDesk$Tokens") (T := px_T5) (N := 6) hx hb htw px_in5 hown hK hP 0 rfl rfl 0 (by decide) (htw _ px_w186) (fun _ h9 => h9) rfl px_d143_39 ?_
        refine lv_aload_n hx hb px_d143_42 rfl (lv_at hl 0 rfl) ?_
        refine va_get (D := (dC, dI)) (ci := 5) (v := .int t_behind) (C := "MatroidDesk$Tokens") (T := px_T5) (N := 6) hx hb htw px_in5 hown hK hP 0 rfl rfl 2 (by decide) (htw _ px_w827) (fun _ h9 => h9) rfl px_d143_43 ?_
        obtain ⟨hi46, hw⟩ := hw
        refine va_bald hx hb hK hP 1 0 rfl rfl hi46 px_d143_46 ?_
        have hPc := hP.sub (ws' := []) [] rfl
        have hDc := hD.sub (ws' := []) [] (by decide) rfl
        have hKc := hK.sub (tys' := []) [] rfl
        have hFc := va_free (wc := []) hD hS hA [] rfl
        refine va_calli (va_runS (As := [.int (g_s (Int32.toNatClampNeg t_behind))]) (rest := []) ⟨hx, hb, hml, hown, htw⟩ (w142_met l dC dI H.size (g_s (Int32.toNatClampNeg t_behind)) _ hw) (cwS 1 htw (px_gs px_w837 px_w848 px_w66 px_g142) rfl rfl rfl (by decide +kernel) ⟨Nat.le_of_ble_eq_true rfl, Nat.le_of_ble_eq_true rfl⟩) ⟨fun a U g mk q => by obtain ⟨q0, q1, qP, qK, qD, qN⟩ := q; exact ⟨q0, q1, qP, va_K.moved (u := U) (U := U.calling g mk a) (Vm.Alike.refl U.vm) qK, qD, qN.same rfl⟩, fun U hU hW => ⟨rfl, by rw [hU], by rw [hU]; exact hPc, va_K.moved hW.alike hKc, hDc.weaken (fun _ _ _ _ => trivial), hN.warm hW⟩⟩ rfl rfl hl.1 rfl (lv_room (Nat.le_of_ble_eq_true rfl)) px_d143_47 ⟨(Nat.le_of_ble_eq_true rfl), (Nat.le_of_ble_eq_true rfl)⟩) hS (fun q _ h => hFc q h) hFc (fun r47 u t H1 locs ht hvm hw hB hz1 hk1 hS => ?_)
        obtain ⟨hP1, hK1, hD1⟩ := hB
        rw [ht] at hP1
        have hK1 := va_K.moved hvm.symm hK1
        obtain ⟨hP, hD⟩ := va_join (wr := [(h0, .inr (5, [.ref q0, .int t_length, .int t_behind, .int t_start, .int t_kind, .int t_value])), (q0, .inl (c_s, n_s, .inl g_s))]) (w1 := []) hP hD [] [0, 1] rfl rfl (by decide) (by decide) hk1 hFc hP1 hD1
        generalize H1 = H at hP hS ⊢
        have hP : va_P (dC, dI) vwCl [(h0, .inr (5, [.ref q0, .int t_length, .int t_behind, .int t_start, .int t_kind, .int t_value])), (q0, .inl (c_s, n_s, .inl g_s))] H := hP
        have hD : va_D A [(h0, .inr (5, [.ref q0, .int t_length, .int t_behind, .int t_start, .int t_kind, .int t_value])), (q0, .inl (c_s, n_s, .inl g_s))] := hD
        refine lv_if_eq (tgt := 96) hx hb px_d143_50 (by decide) (fun c50 => ?_) (fun c50 => ?_)
        · have hw := hw.1 c50
          exact S96 x1 x2 x3 t_length t_behind t_start t_kind t_value g_s H locs ls hP hD hS (lv_sub hl [0, 1, 2, 3] rfl) hw
        · have hw := hw.2 c50
          obtain ⟨z2, ez2⟩ : ∃ y : Int32, y = x2 + 1 := ⟨_, rfl⟩
          have hw := hw z2 ez2
          refine lv_iinc (v := z2) (lv' := [(2, .int z2), (0, .ref h0), (1, .int x1), (3, .int x3)]) hx hb px_d143_53 hl (k := 2) rfl (by rw [ez2]; rfl) (by decide) rfl (fun ls hl => ?_)
          refine lv_iload_n hx hb px_d143_56 rfl (lv_at hl 0 rfl) ?_
          refine lv_iconst (v := 3) hx hb px_d143_57 (by decide) ?_
          refine lv_icmp_le (tgt := 65) hx hb px_d143_58 (by decide) (fun c58 => ?_) (fun c58 => ?_)
          · have hw := hw.1 c58
            refine lv_bipush (v := 10) hx hb px_d143_65 (by decide) ?_
            refine lv_iload_n hx hb px_d143_67 rfl (lv_at hl 3 rfl) ?_
            refine lv_imul hx hb px_d143_68 ?_
            refine lv_aload_n hx hb px_d143_69 rfl (lv_at hl 1 rfl) ?_
            refine va_get (D := (dC, dI)) (ci := 5) (v := .ref q0) (C := "MatroidDesk$Tokens") (T := px_T5) (N := 6) hx hb htw px_in5 hown hK hP 0 rfl rfl 0 (by decide) (htw _ px_w186) (fun _ h9 => h9) rfl px_d143_70 ?_
            refine lv_aload_n hx hb px_d143_73 rfl (lv_at hl 1 rfl) ?_
            refine va_get (D := (dC, dI)) (ci := 5) (v := .int t_behind) (C := "MatroidDesk$Tokens") (T := px_T5) (N := 6) hx hb htw px_in5 hown hK hP 0 rfl rfl 2 (by decide) (htw _ px_w827) (fun _ h9 => h9) rfl px_d143_74 ?_
            obtain ⟨hi77, hw⟩ := hw
            refine va_bald hx hb hK hP 1 0 rfl rfl hi77 px_d143_77 ?_
            refine lv_iadd hx hb px_d143_78 ?_
            refine lv_bipush (v := 48) hx hb px_d143_79 (by decide) ?_
            refine lv_isub hx hb px_d143_81 ?_
            exact S82 x1 z2 x3 (((10 * x3) + (g_s (Int32.toNatClampNeg t_behind))) - 48) t_length t_behind t_start t_kind t_value g_s H locs ls hP hD hS (lv_sub hl [1, 2, 0, 3] rfl) hw
          · have hw := hw.2 c58
            refine lv_iconst (v := 0) hx hb px_d143_61 (by decide) ?_
            refine lv_goto (tgt := 82) hx hb px_d143_62 (by decide) ?_
            exact S82 x1 z2 x3 0 t_length t_behind t_start t_kind t_value g_s H locs ls hP hD hS (lv_sub hl [1, 2, 0, 3] rfl) hw
  have S26 : ∀ (x1 : Int32) (x2 : Int32) (y0 : Int32) (t_length : Int32) (t_behind : Int32) (t_start : Int32) (t_kind : Int32) (t_value : Int32) (g_s : Nat → Int32) (H : Heap) (locs : List Loc) (ls : Array Slot), va_P (dC, dI) vwCl [(h0, .inr (5, [.ref q0, .int t_length, .int t_behind, .int t_start, .int t_kind, .int t_value])), (q0, .inl (c_s, n_s, .inl g_s))] H → va_D A [(h0, .inr (5, [.ref q0, .int t_length, .int t_behind, .int t_start, .int t_kind, .int t_value])), (q0, .inl (c_s, n_s, .inl g_s))] → va_S A s.heap H locs → lv_has ls 4 [(0, .ref h0), (1, .int x1), (2, .int x2)] → w143_L26 n_s post x1 x2 y0 t_length t_behind t_start t_kind t_value g_s → W p l e (headSpec px_s143 ({ frames := 1, cells := 0, slots := 0, locals := 20 })).room s m ([.ref h0, .int a1x]).toArray below meth c H locs 0 0 Q (F0 m 26 ls [.int y0]) := by
    intro x1 x2 y0 t_length t_behind t_start t_kind t_value g_s H locs ls hP hD hS hl hw
    unfold w143_L26 at hw
    refine lv_istore_n (lv' := [(3, .int y0), (0, .ref h0), (1, .int x1), (2, .int x2)]) hx hb px_d143_26 rfl hl (by decide) rfl (fun ls hl => ?_)
    obtain ⟨k9, hw⟩ := hw
    exact S27 k9 x1 x2 y0 t_length t_behind t_start t_kind t_value g_s H locs ls hP hD hS (lv_sub hl [1, 2, 3, 0] rfl) hw
  have S11 : ∀ (x1 : Int32) (y0 : Int32) (t_length : Int32) (t_behind : Int32) (t_start : Int32) (t_kind : Int32) (t_value : Int32) (g_s : Nat → Int32) (H : Heap) (locs : List Loc) (ls : Array Slot), va_P (dC, dI) vwCl [(h0, .inr (5, [.ref q0, .int t_length, .int t_behind, .int t_start, .int t_kind, .int t_value])), (q0, .inl (c_s, n_s, .inl g_s))] H → va_D A [(h0, .inr (5, [.ref q0, .int t_length, .int t_behind, .int t_start, .int t_kind, .int t_value])), (q0, .inl (c_s, n_s, .inl g_s))] → va_S A s.heap H locs → lv_has ls 4 [(0, .ref h0), (1, .int x1)] → w143_L11 n_s post x1 y0 t_length t_behind t_start t_kind t_value g_s → W p l e (headSpec px_s143 ({ frames := 1, cells := 0, slots := 0, locals := 20 })).room s m ([.ref h0, .int a1x]).toArray below meth c H locs 0 0 Q (F0 m 11 ls [.int y0]) := by
    intro x1 y0 t_length t_behind t_start t_kind t_value g_s H locs ls hP hD hS hl hw
    unfold w143_L11 at hw
    refine lv_istore_n (lv' := [(2, .int y0), (0, .ref h0), (1, .int x1)]) hx hb px_d143_11 rfl hl (by decide) rfl (fun ls hl => ?_)
    refine lv_iload_n hx hb px_d143_12 rfl (lv_at hl 2 rfl) ?_
    refine lv_bipush (v := 45) hx hb px_d143_13 (by decide) ?_
    refine lv_icmp_ne (tgt := 22) hx hb px_d143_15 (by decide) (fun c15 => ?_) (fun c15 => ?_)
    · have hw := hw.1 c15
      refine lv_iload_n hx hb px_d143_22 rfl (lv_at hl 2 rfl) ?_
      refine lv_bipush (v := 48) hx hb px_d143_23 (by decide) ?_
      refine lv_isub hx hb px_d143_25 ?_
      exact S26 x1 y0 (x1 - 48) t_length t_behind t_start t_kind t_value g_s H locs ls hP hD hS (lv_sub hl [1, 2, 0] rfl) hw
    · have hw := hw.2 c15
      refine lv_iconst (v := 0) hx hb px_d143_18 (by decide) ?_
      refine lv_goto (tgt := 26) hx hb px_d143_19 (by decide) ?_
      exact S26 x1 y0 0 t_length t_behind t_start t_kind t_value g_s H locs ls hP hD hS (lv_sub hl [1, 2, 0] rfl) hw
  unfold w143_wp at hw
  have hS0 := hS
  obtain ⟨H, hH9⟩ : ∃ z, z = s.heap := ⟨_, rfl⟩
  have hP : va_P (dC, dI) vwCl [(h0, .inr (5, [.ref q0, .int t_length, .int t_behind, .int t_start, .int t_kind, .int t_value])), (q0, .inl (c_s, n_s, .inl g_s))] H := by rw [hH9]; exact hP
  obtain ⟨locs, hlo9⟩ : ∃ z : List Loc, z = [] := ⟨_, rfl⟩
  have hS : va_S A s.heap H locs := by rw [hH9, hlo9]; exact hS
  suffices hG : W p l e (headSpec px_s143 ({ frames := 1, cells := 0, slots := 0, locals := 20 })).room s m ([.ref h0, .int a1x]).toArray below meth c H locs 0 0 Q (F0 m 0 ls []) by rw [hH9, hlo9] at hG; exact hG
  refine lv_iload_n hx hb px_d143_0 rfl (lv_at hl 1 rfl) ?_
  refine lv_bipush (v := 45) hx hb px_d143_1 (by decide) ?_
  refine lv_icmp_ne (tgt := 10) hx hb px_d143_3 (by decide) (fun c3 => ?_) (fun c3 => ?_)
  · have hw := hw.1 c3
    refine lv_iconst (v := 1) hx hb px_d143_10 (by decide) ?_
    exact S11 a1x 1 t_length t_behind t_start t_kind t_value g_s H locs ls hP hD hS (lv_sub hl [0, 1] rfl) hw
  · have hw := hw.2 c3
    refine lv_iconst (v := 0) hx hb px_d143_6 (by decide) ?_
    refine lv_goto (tgt := 11) hx hb px_d143_7 (by decide) ?_
    exact S11 a1x 0 t_length t_behind t_start t_kind t_value g_s H locs ls hP hD hS (lv_sub hl [0, 1] rfl) hw

/-! MatroidDesk$Tokens.step()V -/
def w138_L133 (n_s : Nat) (post : Int32 → Int32 → Int32 → Int32 → Int32 → (Nat → Int32) → Prop) (x1 : Int32) (t_length : Int32) (t_behind : Int32) (t_start : Int32) (t_kind : Int32) (t_value : Int32) (g_s : Nat → Int32) : Prop := post t_length t_behind t_start t_kind t_value g_s
def w138_L130 (n_s : Nat) (post : Int32 → Int32 → Int32 → Int32 → Int32 → (Nat → Int32) → Prop) (x1 : Int32) (x2 : Int32) (y0 : Int32) (t_length : Int32) (t_behind : Int32) (t_start : Int32) (t_kind : Int32) (t_value : Int32) (g_s : Nat → Int32) : Prop := w138_L133 n_s post x1 t_length t_behind t_start y0 t_value g_s
def w138_L119 (n_s : Nat) (post : Int32 → Int32 → Int32 → Int32 → Int32 → (Nat → Int32) → Prop) (x1 : Int32) (y0 : Int32) (t_length : Int32) (t_behind : Int32) (t_start : Int32) (t_kind : Int32) (t_value : Int32) (g_s : Nat → Int32) : Prop := (y0 = 0 → w138_L130 n_s post x1 y0 1 t_length t_behind t_start t_kind t_value g_s) ∧ (¬ y0 = 0 → w138_L130 n_s post x1 y0 x1 t_length t_behind t_start t_kind t_value g_s)
def w138_L114 (n_s : Nat) (post : Int32 → Int32 → Int32 → Int32 → Int32 → (Nat → Int32) → Prop) (x1 : Int32) (t_length : Int32) (t_behind : Int32) (t_start : Int32) (t_kind : Int32) (t_value : Int32) (g_s : Nat → Int32) : Prop := w138_L119 n_s post x1 1 t_length t_behind t_start t_kind t_value g_s
def w138_L76 (n_s : Nat) (post : Int32 → Int32 → Int32 → Int32 → Int32 → (Nat → Int32) → Prop) (x1 : Int32) (t_length : Int32) (t_behind : Int32) (t_start : Int32) (t_kind : Int32) (t_value : Int32) (g_s : Nat → Int32) : Prop := w143_wp n_s (fun v1 v2 v3 v4 v5 v6 => w138_L133 n_s post x1 v1 v2 v3 v4 v5 v6) x1 t_length t_behind t_start t_kind t_value g_s
def w138_wp (n_s : Nat) (post : Int32 → Int32 → Int32 → Int32 → Int32 → (Nat → Int32) → Prop) (t_length : Int32) (t_behind : Int32) (t_start : Int32) (t_kind : Int32) (t_value : Int32) (g_s : Nat → Int32) : Prop := w139_wp n_s (fun v7 v8 v9 v10 v11 v12 => (v8 < v7 → vp_in v8 n_s ∧ (∀ z13 : Int32, z13 = v12 (Int32.toNatClampNeg v8) → ∀ z14 : Int32, z14 = v8 + 1 → w140_wp (fun r50  => (r50 = 0 → (z13 = 45 → w138_L76 n_s post z13 v7 z14 v8 v10 v11 v12) ∧ (¬ z13 = 45 → w142_wp (fun r70  => (r70 = 0 → (z13 = 123 → w138_L114 n_s post z13 v7 z14 v8 v10 v11 v12) ∧ (¬ z13 = 123 → (z13 = 125 → w138_L114 n_s post z13 v7 z14 v8 v10 v11 v12) ∧ (¬ z13 = 125 → (z13 = 44 → w138_L114 n_s post z13 v7 z14 v8 v10 v11 v12) ∧ (¬ z13 = 44 → (z13 = 61 → w138_L114 n_s post z13 v7 z14 v8 v10 v11 v12) ∧ (¬ z13 = 61 → (¬ z13 = 59 → w138_L119 n_s post z13 0 v7 z14 v8 v10 v11 v12) ∧ (z13 = 59 → w138_L114 n_s post z13 v7 z14 v8 v10 v11 v12)))))) ∧ (¬ r70 = 0 → w138_L76 n_s post z13 v7 z14 v8 v10 v11 v12)) z13)) ∧ (¬ r50 = 0 → w141_wp n_s (fun v15 v16 v17 v18 v19 v20 => w138_L133 n_s post z13 v15 v16 v17 v18 v19 v20) v7 z14 v8 v10 v11 v12)) z13)) ∧ (¬ v8 < v7 → post v7 v8 v8 0 v11 v12)) t_length t_behind t_start t_kind t_value g_s
set_option maxHeartbeats 8000000 in
set_option maxRecDepth 100000 in
theorem w138_met (l : Launch) (dC : Nat → ClassId) (dI : Nat → Nat → Nat) (sz : Nat) (h0 : Nat) (q0 : Nat) (n_s : Nat) (c_s : ClassId) (t_length : Int32) (t_behind : Int32) (t_start : Int32) (t_kind : Int32) (t_value : Int32) (g_s : Nat → Int32) (post : Int32 → Int32 → Int32 → Int32 → Int32 → (Nat → Int32) → Prop) (hw : w138_wp n_s post t_length t_behind t_start t_kind t_value g_s) : Met l px_y138 px_s138 ({ frames := 2, cells := 0, slots := 0, locals := 43 }) (va_Pc [.ref h0] (fun U => U.heap.size = sz ∧ va_P (dC, dI) vwCl [(h0, .inr (5, [.ref q0, .int t_length, .int t_behind, .int t_start, .int t_kind, .int t_value])), (q0, .inl (c_s, n_s, .inl g_s))] U.heap ∧ va_K (dC, dI) vwCl [(c_s, .byte)] U ∧ va_D (fun _ => True) [(h0, .inr (5, [.ref q0, .int t_length, .int t_behind, .int t_start, .int t_kind, .int t_value])), (q0, .inl (c_s, n_s, .inl g_s))] ∧ px_N U)) (va_Qv (fun (u : Int32 × Int32 × Int32 × Int32 × Int32 × (Nat → Int32)) => post u.1 u.2.1 u.2.2.1 u.2.2.2.1 u.2.2.2.2.1 u.2.2.2.2.2) (fun (u : Int32 × Int32 × Int32 × Int32 × Int32 × (Nat → Int32)) (t : State) => va_P (dC, dI) vwCl [(h0, .inr (5, [.ref q0, .int u.1, .int u.2.1, .int u.2.2.1, .int u.2.2.2.1, .int u.2.2.2.2.1])), (q0, .inl (c_s, n_s, .inl u.2.2.2.2.2))] t.heap ∧ va_K (dC, dI) vwCl [(c_s, .byte)] t ∧ va_D (va_A [(h0, .inr (5, [.ref q0, .int t_length, .int t_behind, .int t_start, .int t_kind, .int t_value])), (q0, .inl (c_s, n_s, .inl g_s))] sz) [(h0, .inr (5, [.ref q0, .int u.1, .int u.2.1, .int u.2.2.1, .int u.2.2.2.1, .int u.2.2.2.2.1])), (q0, .inl (c_s, n_s, .inl u.2.2.2.2.2))]) (va_A [(h0, .inr (5, [.ref q0, .int t_length, .int t_behind, .int t_start, .int t_kind, .int t_value])), (q0, .inl (c_s, n_s, .inl g_s))] sz)) 0 0 (va_A [(h0, .inr (5, [.ref q0, .int t_length, .int t_behind, .int t_start, .int t_kind, .int t_value])), (q0, .inl (c_s, n_s, .inl g_s))] sz) := by
  refine Met.ofW (cc := prog_10_method_3_code) (maxL := 3) (ret := none) (by decide) rfl ?_
  intro p e s m args below meth c s₁ B hml hv
  obtain ⟨rfl, hsz, hP, hK, hD0, hN⟩ := hv
  have hx := B.exec
  have hb := B.bytes
  have hr := B.returns
  have htw : ∀ w ∈ px_all, w.before _ s = true := fun w h => atoms_spec (ws := px_s138) B.pre w (List.mem_cons_of_mem _ h)
  have hown : s.vm.findClass "MatroidDesk$Tokens" = some m.cls := findClass_of_methodNamed B.named
  have hlocks := B.notSynchronized
  subst hsz
  have hD := hD0.self (sz := s.heap.size)
  generalize hAe : va_A [(h0, .inr (5, [.ref q0, .int t_length, .int t_behind, .int t_start, .int t_kind, .int t_value])), (q0, .inl (c_s, n_s, .inl g_s))] s.heap.size = A at hD ⊢
  have hA : ∀ q : Nat, s.heap.size ≤ q → A q := fun q h => by rw [← hAe]; exact Or.inr h
  have hS : va_S A s.heap s.heap [] := va_S.rf
  have hP : va_P (dC, dI) vwCl [(h0, .inr (5, [.ref q0, .int t_length, .int t_behind, .int t_start, .int t_kind, .int t_value])), (q0, .inl (c_s, n_s, .inl g_s))] s.heap := hP
  have hl := lv_entry ([.ref h0]) (n := 3) (Nat.le_of_ble_eq_true rfl)
  rw [lg_entry_eq]
  generalize (lg_sl ([.ref h0]) ++ List.replicate (3 - (lg_sl ([.ref h0])).length) Slot.unset).toArray = ls at hl ⊢
  have hl : lv_has ls 3 [(0, .ref h0)] := hl
  generalize hQ : MQ _ _ _ _ _ _ _ = Q
  have S133 : ∀ (x1 : Int32) (t_length : Int32) (t_behind : Int32) (t_start : Int32) (t_kind : Int32) (t_value : Int32) (g_s : Nat → Int32) (H : Heap) (locs : List Loc) (ls : Array Slot), va_P (dC, dI) vwCl [(h0, .inr (5, [.ref q0, .int t_length, .int t_behind, .int t_start, .int t_kind, .int t_value])), (q0, .inl (c_s, n_s, .inl g_s))] H → va_D A [(h0, .inr (5, [.ref q0, .int t_length, .int t_behind, .int t_start, .int t_kind, .int t_value])), (q0, .inl (c_s, n_s, .inl g_s))] → va_S A s.heap H locs → lv_has ls 3 [(0, .ref h0), (1, .int x1)] → w138_L133 n_s post x1 t_length t_behind t_start t_kind t_value g_s → W p l e (headSpec px_s138 ({ frames := 2, cells := 0, slots := 0, locals := 43 })).room s m ([.ref h0]).toArray below meth c H locs 0 0 Q (F0 m 133 ls []) := by
    intro x1 t_length t_behind t_start t_kind t_value g_s H locs ls hP hD hS hl hw
    unfold w138_L133 at hw
    rw [← hQ]
    exact W.vret hx hb hr (fun t ht hW => ⟨⟨(t_length, t_behind, t_start, t_kind, t_value, g_s), rfl, hw, by rw [ht]; exact hP, va_K.moved hW.alike hK, hD⟩, hS.F ht⟩) hS.2.2 px_d138_133
  have S130 : ∀ (x1 : Int32) (x2 : Int32) (y0 : Int32) (t_length : Int32) (t_behind : Int32) (t_start : Int32) (t_kind : Int32) (t_value : Int32) (g_s : Nat → Int32) (H : Heap) (locs : List Loc) (ls : Array Slot), va_P (dC, dI) vwCl [(h0, .inr (5, [.ref q0, .int t_length, .int t_behind, .int t_start, .int t_kind, .int t_value])), (q0, .inl (c_s, n_s, .inl g_s))] H → va_D A [(h0, .inr (5, [.ref q0, .int t_length, .int t_behind, .int t_start, .int t_kind, .int t_value])), (q0, .inl (c_s, n_s, .inl g_s))] → va_S A s.heap H locs → lv_has ls 3 [(0, .ref h0), (1, .int x1), (2, .int x2)] → w138_L130 n_s post x1 x2 y0 t_length t_behind t_start t_kind t_value g_s → W p l e (headSpec px_s138 ({ frames := 2, cells := 0, slots := 0, locals := 43 })).room s m ([.ref h0]).toArray below meth c H locs 0 0 Q (F0 m 130 ls [.int y0, .ref h0]) := by
    intro x1 x2 y0 t_length t_behind t_start t_kind t_value g_s H locs ls hP hD hS hl hw
    unfold w138_L130 at hw
    refine va_put (D := (dC, dI)) (ci := 5) (v := .int y0) (ty := .int) (C := "MatroidDesk$Tokens") (T := px_T5) (N := 6) hx hb htw px_in5 px_ty5 px_tyok5 px_nm5 hown hK hP hD hS 0 rfl rfl 4 (by decide) (htw _ px_w834) (fun _ h9 => h9) rfl (by decide +kernel) rfl rfl (Nat.le_of_ble_eq_true rfl) px_d138_130 (fun H locs hP hD hS => ?_)
    have hP : va_P (dC, dI) vwCl [(h0, .inr (5, [.ref q0, .int t_length, .int t_behind, .int t_start, .int y0, .int t_value])), (q0, .inl (c_s, n_s, .inl g_s))] H := hP
    have hD : va_D A [(h0, .inr (5, [.ref q0, .int t_length, .int t_behind, .int t_start, .int y0, .int t_value])), (q0, .inl (c_s, n_s, .inl g_s))] := hD
    exact S133 x1 t_length t_behind t_start y0 t_value g_s H locs ls hP hD hS (lv_sub hl [0, 1] rfl) hw
  have S119 : ∀ (x1 : Int32) (y0 : Int32) (t_length : Int32) (t_behind : Int32) (t_start : Int32) (t_kind : Int32) (t_value : Int32) (g_s : Nat → Int32) (H : Heap) (locs : List Loc) (ls : Array Slot), va_P (dC, dI) vwCl [(h0, .inr (5, [.ref q0, .int t_length, .int t_behind, .int t_start, .int t_kind, .int t_value])), (q0, .inl (c_s, n_s, .inl g_s))] H → va_D A [(h0, .inr (5, [.ref q0, .int t_length, .int t_behind, .int t_start, .int t_kind, .int t_value])), (q0, .inl (c_s, n_s, .inl g_s))] → va_S A s.heap H locs → lv_has ls 3 [(0, .ref h0), (1, .int x1)] → w138_L119 n_s post x1 y0 t_length t_behind t_start t_kind t_value g_s → W p l e (headSpec px_s138 ({ frames := 2, cells := 0, slots := 0, locals := 43 })).room s m ([.ref h0]).toArray below meth c H locs 0 0 Q (F0 m 119 ls [.int y0]) := by
    intro x1 y0 t_length t_behind t_start t_kind t_value g_s H locs ls hP hD hS hl hw
    unfold w138_L119 at hw
    refine lv_istore_n (lv' := [(2, .int y0), (0, .ref h0), (1, .int x1)]) hx hb px_d138_119 rfl hl (by decide) rfl (fun ls hl => ?_)
    refine lv_aload_n hx hb px_d138_120 rfl (lv_at hl 1 rfl) ?_
    refine lv_iload_n hx hb px_d138_121 rfl (lv_at hl 0 rfl) ?_
    refine lv_if_eq (tgt := 129) hx hb px_d138_122 (by decide) (fun c122 => ?_) (fun c122 => ?_)
    · have hw := hw.1 c122
      refine lv_iconst (v := 1) hx hb px_d138_129 (by decide) ?_
      exact S130 x1 y0 1 t_length t_behind t_start t_kind t_value g_s H locs ls hP hD hS (lv_sub hl [1, 2, 0] rfl) hw
    · have hw := hw.2 c122
      refine lv_iload_n hx hb px_d138_125 rfl (lv_at hl 2 rfl) ?_
      refine lv_goto (tgt := 130) hx hb px_d138_126 (by decide) ?_
      exact S130 x1 y0 x1 t_length t_behind t_start t_kind t_value g_s H locs ls hP hD hS (lv_sub hl [1, 2, 0] rfl) hw
  have S114 : ∀ (x1 : Int32) (t_length : Int32) (t_behind : Int32) (t_start : Int32) (t_kind : Int32) (t_value : Int32) (g_s : Nat → Int32) (H : Heap) (locs : List Loc) (ls : Array Slot), va_P (dC, dI) vwCl [(h0, .inr (5, [.ref q0, .int t_length, .int t_behind, .int t_start, .int t_kind, .int t_value])), (q0, .inl (c_s, n_s, .inl g_s))] H → va_D A [(h0, .inr (5, [.ref q0, .int t_length, .int t_behind, .int t_start, .int t_kind, .int t_value])), (q0, .inl (c_s, n_s, .inl g_s))] → va_S A s.heap H locs → lv_has ls 3 [(0, .ref h0), (1, .int x1)] → w138_L114 n_s post x1 t_length t_behind t_start t_kind t_value g_s → W p l e (headSpec px_s138 ({ frames := 2, cells := 0, slots := 0, locals := 43 })).room s m ([.ref h0]).toArray below meth c H locs 0 0 Q (F0 m 114 ls []) := by
    intro x1 t_length t_behind t_start t_kind t_value g_s H locs ls hP hD hS hl hw
    unfold w138_L114 at hw
    refine lv_iconst (v := 1) hx hb px_d138_114 (by decide) ?_
    refine lv_goto (tgt := 119) hx hb px_d138_115 (by decide) ?_
    exact S119 x1 1 t_length t_behind t_start t_kind t_value g_s H locs ls hP hD hS (lv_sub hl [0, 1] rfl) hw
  have S76 : ∀ (x1 : Int32) (t_length : Int32) (t_behind : Int32) (t_start : Int32) (t_kind : Int32) (t_value : Int32) (g_s : Nat → Int32) (H : Heap) (locs : List Loc) (ls : Array Slot), va_P (dC, dI) vwCl [(h0, .inr (5, [.ref q0, .int t_length, .int t_behind, .int t_start, .int t_kind, .int t_value])), (q0, .inl (c_s, n_s, .inl g_s))] H → va_D A [(h0, .inr (5, [.ref q0, .int t_length, .int t_behind, .int t_start, .int t_kind, .int t_value])), (q0, .inl (c_s, n_s, .inl g_s))] → va_S A s.heap H locs → lv_has ls 3 [(0, .ref h0), (1, .int x1)] → w138_L76 n_s post x1 t_length t_behind t_start t_kind t_value g_s → W p l e (headSpec px_s138 ({ frames := 2, cells := 0, slots := 0, locals := 43 })).room s m ([.ref h0]).toArray below meth c H locs 0 0 Q (F0 m 76 ls []) := by
    intro x1 t_length t_behind t_start t_kind t_value g_s H locs ls hP hD hS hl hw
    unfold w138_L76 at hw
    refine lv_aload_n hx hb px_d138_76 rfl (lv_at hl 0 rfl) ?_
    refine lv_iload_n hx hb px_d138_77 rfl (lv_at hl 1 rfl) ?_
    have hPc := hP.sub (ws' := [(h0, .inr (5, [.ref q0, .int t_length, .int t_behind, .int t_start, .int t_kind, .int t_value])), (q0, .inl (c_s, n_s, .inl g_s))]) [0, 1] rfl
    have hDc := hD.sub (ws' := [(h0, .inr (5, [.ref q0, .int t_length, .int t_behind, .int t_start, .int t_kind, .int t_value])), (q0, .inl (c_s, n_s, .inl g_s))]) [0, 1] (by decide) rfl
    have hKc := hK.sub (tys' := [(c_s, .byte)]) [0] rfl
    have hFc := va_free (wc := [(h0, .inr (5, [.ref q0, .int t_length, .int t_behind, .int t_start, .int t_kind, .int t_value])), (q0, .inl (c_s, n_s, .inl g_s))]) hD hS hA [0, 1] rfl
    refine va_callv (va_runV (As := [.int x1]) (rest := []) ⟨hx, hb, hml, hown, htw⟩ (w143_met l dC dI H.size h0 q0 n_s c_s x1 t_length t_behind t_start t_kind t_value g_s _ hw) (cwV 1 htw (px_gv px_w838 px_w850 px_w851 px_w66 px_g143) rfl rfl rfl (by decide +kernel) ⟨Nat.le_of_ble_eq_true rfl, Nat.le_of_ble_eq_true rfl⟩) ⟨fun a U g mk q => by obtain ⟨q0, q1, qP, qK, qD, qN⟩ := q; exact ⟨q0, q1, qP, va_K.moved (u := U) (U := U.calling g mk a) (Vm.Alike.refl U.vm) qK, qD, qN.same rfl⟩, va_recv hK hP (ci := 5) (q0 := 0) rfl rfl, fun U hU hW => ⟨rfl, by rw [hU], by rw [hU]; exact hPc, va_K.moved hW.alike hKc, hDc.weaken (fun _ _ _ _ => trivial), hN.warm hW⟩⟩ rfl rfl hl.1 rfl (lv_room (Nat.le_of_ble_eq_true rfl)) px_d138_78 ⟨(Nat.le_of_ble_eq_true rfl), (Nat.le_of_ble_eq_true rfl)⟩) hS (fun q _ h => hFc q h) hFc (fun u t H1 locs ht hvm hw hB hz1 hk1 hS => ?_)
    obtain ⟨v1, v2, v3, v4, v5, v6⟩ := u
    obtain ⟨hP1, hK1, hD1⟩ := hB
    rw [ht] at hP1
    have hK1 := va_K.moved hvm.symm hK1
    obtain ⟨hP, hD⟩ := va_join (wr := []) (w1 := [(h0, .inr (5, [.ref q0, .int v1, .int v2, .int v3, .int v4, .int v5])), (q0, .inl (c_s, n_s, .inl v6))]) hP hD [0, 1] [] rfl rfl (by decide) (by decide) hk1 hFc hP1 hD1
    generalize H1 = H at hP hS ⊢
    have hP : va_P (dC, dI) vwCl [(h0, .inr (5, [.ref q0, .int v1, .int v2, .int v3, .int v4, .int v5])), (q0, .inl (c_s, n_s, .inl v6))] H := hP
    have hD : va_D A [(h0, .inr (5, [.ref q0, .int v1, .int v2, .int v3, .int v4, .int v5])), (q0, .inl (c_s, n_s, .inl v6))] := hD
    refine lv_goto (tgt := 133) hx hb px_d138_81 (by decide) ?_
    exact S133 x1 v1 v2 v3 v4 v5 v6 H locs ls hP hD hS (lv_sub hl [0, 1] rfl) hw
  unfold w138_wp at hw
  have hS0 := hS
  obtain ⟨H, hH9⟩ : ∃ z, z = s.heap := ⟨_, rfl⟩
  have hP : va_P (dC, dI) vwCl [(h0, .inr (5, [.ref q0, .int t_length, .int t_behind, .int t_start, .int t_kind, .int t_value])), (q0, .inl (c_s, n_s, .inl g_s))] H := by rw [hH9]; exact hP
  obtain ⟨locs, hlo9⟩ : ∃ z : List Loc, z = [] := ⟨_, rfl⟩
  have hS : va_S A s.heap H locs := by rw [hH9, hlo9]; exact hS
  suffices hG : W p l e (headSpec px_s138 ({ frames := 2, cells := 0, slots := 0, locals := 43 })).room s m ([.ref h0]).toArray below meth c H locs 0 0 Q (F0 m 0 ls []) by rw [hH9, hlo9] at hG; exact hG
  refine lv_aload_n hx hb px_d138_0 rfl (lv_at hl 0 rfl) ?_
  have hPc := hP.sub (ws' := [(h0, .inr (5, [.ref q0, .int t_length, .int t_behind, .int t_start, .int t_kind, .int t_value])), (q0, .inl (c_s, n_s, .inl g_s))]) [0, 1] rfl
  have hDc := hD.sub (ws' := [(h0, .inr (5, [.ref q0, .int t_length, .int t_behind, .int t_start, .int t_kind, .int t_value])), (q0, .inl (c_s, n_s, .inl g_s))]) [0, 1] (by decide) rfl
  have hKc := hK.sub (tys' := [(c_s, .byte)]) [0] rfl
  have hFc := va_free (wc := [(h0, .inr (5, [.ref q0, .int t_length, .int t_behind, .int t_start, .int t_kind, .int t_value])), (q0, .inl (c_s, n_s, .inl g_s))]) hD hS hA [0, 1] rfl
  refine va_callv (va_runV (As := []) (rest := []) ⟨hx, hb, hml, hown, htw⟩ (w139_met l dC dI H.size h0 q0 n_s c_s t_length t_behind t_start t_kind t_value g_s _ hw) (cwV 0 htw (px_gv px_w832 px_w840 px_w841 px_w66 px_g139) rfl rfl rfl (by decide +kernel) ⟨Nat.le_of_ble_eq_true rfl, Nat.le_of_ble_eq_true rfl⟩) ⟨fun a U g mk q => by obtain ⟨q0, q1, qP, qK, qD, qN⟩ := q; exact ⟨q0, q1, qP, va_K.moved (u := U) (U := U.calling g mk a) (Vm.Alike.refl U.vm) qK, qD, qN.same rfl⟩, va_recv hK hP (ci := 5) (q0 := 0) rfl rfl, fun U hU hW => ⟨rfl, by rw [hU], by rw [hU]; exact hPc, va_K.moved hW.alike hKc, hDc.weaken (fun _ _ _ _ => trivial), hN.warm hW⟩⟩ rfl rfl hl.1 rfl (lv_room (Nat.le_of_ble_eq_true rfl)) px_d138_1 ⟨(Nat.le_of_ble_eq_true rfl), (Nat.le_of_ble_eq_true rfl)⟩) hS (fun q _ h => hFc q h) hFc (fun u t H1 locs ht hvm hw hB hz1 hk1 hS => ?_)
  obtain ⟨v7, v8, v9, v10, v11, v12⟩ := u
  obtain ⟨hP1, hK1, hD1⟩ := hB
  rw [ht] at hP1
  have hK1 := va_K.moved hvm.symm hK1
  obtain ⟨hP, hD⟩ := va_join (wr := []) (w1 := [(h0, .inr (5, [.ref q0, .int v7, .int v8, .int v9, .int v10, .int v11])), (q0, .inl (c_s, n_s, .inl v12))]) hP hD [0, 1] [] rfl rfl (by decide) (by decide) hk1 hFc hP1 hD1
  generalize H1 = H at hP hS ⊢
  have hP : va_P (dC, dI) vwCl [(h0, .inr (5, [.ref q0, .int v7, .int v8, .int v9, .int v10, .int v11])), (q0, .inl (c_s, n_s, .inl v12))] H := hP
  have hD : va_D A [(h0, .inr (5, [.ref q0, .int v7, .int v8, .int v9, .int v10, .int v11])), (q0, .inl (c_s, n_s, .inl v12))] := hD
  refine lv_aload_n hx hb px_d138_4 rfl (lv_at hl 0 rfl) ?_
  refine lv_aload_n hx hb px_d138_5 rfl (lv_at hl 0 rfl) ?_
  refine va_get (D := (dC, dI)) (ci := 5) (v := .int v8) (C := "MatroidDesk$Tokens") (T := px_T5) (N := 6) hx hb htw px_in5 hown hK hP 0 rfl rfl 2 (by decide) (htw _ px_w827) (fun _ h9 => h9) rfl px_d138_6 ?_
  refine va_put (D := (dC, dI)) (ci := 5) (v := .int v8) (ty := .int) (C := "MatroidDesk$Tokens") (T := px_T5) (N := 6) hx hb htw px_in5 px_ty5 px_tyok5 px_nm5 hown hK hP hD hS 0 rfl rfl 3 (by decide) (htw _ px_w833) (fun _ h9 => h9) rfl (by decide +kernel) rfl rfl (Nat.le_of_ble_eq_true rfl) px_d138_9 (fun H locs hP hD hS => ?_)
  have hP : va_P (dC, dI) vwCl [(h0, .inr (5, [.ref q0, .int v7, .int v8, .int v8, .int v10, .int v11])), (q0, .inl (c_s, n_s, .inl v12))] H := hP
  have hD : va_D A [(h0, .inr (5, [.ref q0, .int v7, .int v8, .int v8, .int v10, .int v11])), (q0, .inl (c_s, n_s, .inl v12))] := hD
  refine lv_aload_n hx hb px_d138_12 rfl (lv_at hl 0 rfl) ?_
  refine va_get (D := (dC, dI)) (ci := 5) (v := .int v8) (C := "MatroidDesk$Tokens") (T := px_T5) (N := 6) hx hb htw px_in5 hown hK hP 0 rfl rfl 2 (by decide) (htw _ px_w827) (fun _ h9 => h9) rfl px_d138_13 ?_
  refine lv_aload_n hx hb px_d138_16 rfl (lv_at hl 0 rfl) ?_
  refine va_get (D := (dC, dI)) (ci := 5) (v := .int v7) (C := "MatroidDesk$Tokens") (T := px_T5) (N := 6) hx hb htw px_in5 hown hK hP 0 rfl rfl 1 (by decide) (htw _ px_w826) (fun _ h9 => h9) rfl px_d138_17 ?_
  refine lv_icmp_lt (tgt := 29) hx hb px_d138_20 (by decide) (fun c20 => ?_) (fun c20 => ?_)
  · have hw := hw.1 c20
    refine lv_aload_n hx hb px_d138_29 rfl (lv_at hl 0 rfl) ?_
    refine va_get (D := (dC, dI)) (ci := 5) (v := .ref q0) (C := "MatroidDesk$Tokens") (T := px_T5) (N := 6) hx hb htw px_in5 hown hK hP 0 rfl rfl 0 (by decide) (htw _ px_w186) (fun _ h9 => h9) rfl px_d138_30 ?_
    refine lv_aload_n hx hb px_d138_33 rfl (lv_at hl 0 rfl) ?_
    refine va_get (D := (dC, dI)) (ci := 5) (v := .int v8) (C := "MatroidDesk$Tokens") (T := px_T5) (N := 6) hx hb htw px_in5 hown hK hP 0 rfl rfl 2 (by decide) (htw _ px_w827) (fun _ h9 => h9) rfl px_d138_34 ?_
    obtain ⟨hi37, hw⟩ := hw
    refine va_bald hx hb hK hP 1 0 rfl rfl hi37 px_d138_37 ?_
    refine lv_topi (fun z13 ez13 => ?_)
    have hw := hw z13 ez13
    refine lv_istore_n (lv' := [(1, .int z13), (0, .ref h0)]) hx hb px_d138_38 rfl hl (by decide) rfl (fun ls hl => ?_)
    refine lv_aload_n hx hb px_d138_39 rfl (lv_at hl 1 rfl) ?_
    refine lv_dup hx hb px_d138_40 rfl ?_
    refine va_get (D := (dC, dI)) (ci := 5) (v := .int v8) (C := "MatroidDesk$Tokens") (T := px_T5) (N := 6) hx hb htw px_in5 hown hK hP 0 rfl rfl 2 (by decide) (htw _ px_w827) (fun _ h9 => h9) rfl px_d138_41 ?_
    refine lv_iconst (v := 1) hx hb px_d138_44 (by decide) ?_
    refine lv_iadd hx hb px_d138_45 ?_
    refine lv_topi (fun z14 ez14 => ?_)
    have hw := hw z14 ez14
    refine va_put (D := (dC, dI)) (ci := 5) (v := .int z14) (ty := .int) (C := "MatroidDesk$Tokens") (T := px_T5) (N := 6) hx hb htw px_in5 px_ty5 px_tyok5 px_nm5 hown hK hP hD hS 0 rfl rfl 2 (by decide) (htw _ px_w827) (fun _ h9 => h9) rfl (by decide +kernel) rfl rfl (Nat.le_of_ble_eq_true rfl) px_d138_46 (fun H locs hP hD hS => ?_)
    have hP : va_P (dC, dI) vwCl [(h0, .inr (5, [.ref q0, .int v7, .int z14, .int v8, .int v10, .int v11])), (q0, .inl (c_s, n_s, .inl v12))] H := hP
    have hD : va_D A [(h0, .inr (5, [.ref q0, .int v7, .int z14, .int v8, .int v10, .int v11])), (q0, .inl (c_s, n_s, .inl v12))] := hD
    refine lv_iload_n hx hb px_d138_49 rfl (lv_at hl 0 rfl) ?_
    have hPc := hP.sub (ws' := []) [] rfl
    have hDc := hD.sub (ws' := []) [] (by decide) rfl
    have hKc := hK.sub (tys' := []) [] rfl
    have hFc := va_free (wc := []) hD hS hA [] rfl
    refine va_calli (va_runS (As := [.int z13]) (rest := []) ⟨hx, hb, hml, hown, htw⟩ (w140_met l dC dI H.size z13 _ hw) (cwS 1 htw (px_gs px_w835 px_w843 px_w66 px_g140) rfl rfl rfl (by decide +kernel) ⟨Nat.le_of_ble_eq_true rfl, Nat.le_of_ble_eq_true rfl⟩) ⟨fun a U g mk q => by obtain ⟨q0, q1, qP, qK, qD, qN⟩ := q; exact ⟨q0, q1, qP, va_K.moved (u := U) (U := U.calling g mk a) (Vm.Alike.refl U.vm) qK, qD, qN.same rfl⟩, fun U hU hW => ⟨rfl, by rw [hU], by rw [hU]; exact hPc, va_K.moved hW.alike hKc, hDc.weaken (fun _ _ _ _ => trivial), hN.warm hW⟩⟩ rfl rfl hl.1 rfl (lv_room (Nat.le_of_ble_eq_true rfl)) px_d138_50 ⟨(Nat.le_of_ble_eq_true rfl), (Nat.le_of_ble_eq_true rfl)⟩) hS (fun q _ h => hFc q h) hFc (fun r50 u t H1 locs ht hvm hw hB hz1 hk1 hS => ?_)
    obtain ⟨hP1, hK1, hD1⟩ := hB
    rw [ht] at hP1
    have hK1 := va_K.moved hvm.symm hK1
    obtain ⟨hP, hD⟩ := va_join (wr := [(h0, .inr (5, [.ref q0, .int v7, .int z14, .int v8, .int v10, .int v11])), (q0, .inl (c_s, n_s, .inl v12))]) (w1 := []) hP hD [] [0, 1] rfl rfl (by decide) (by decide) hk1 hFc hP1 hD1
    generalize H1 = H at hP hS ⊢
    have hP : va_P (dC, dI) vwCl [(h0, .inr (5, [.ref q0, .int v7, .int z14, .int v8, .int v10, .int v11])), (q0, .inl (c_s, n_s, .inl v12))] H := hP
    have hD : va_D A [(h0, .inr (5, [.ref q0, .int v7, .int z14, .int v8, .int v10, .int v11])), (q0, .inl (c_s, n_s, .inl v12))] := hD
    refine lv_if_eq (tgt := 63) hx hb px_d138_53 (by decide) (fun c53 => ?_) (fun c53 => ?_)
    · have hw := hw.1 c53
      refine lv_iload_n hx hb px_d138_63 rfl (lv_at hl 0 rfl) ?_
      refine lv_bipush (v := 45) hx hb px_d138_64 (by decide) ?_
      refine lv_icmp_eq (tgt := 76) hx hb px_d138_66 (by decide) (fun c66 => ?_) (fun c66 => ?_)
      · have hw := hw.1 c66
        exact S76 z13 v7 z14 v8 v10 v11 v12 H locs ls hP hD hS (lv_sub hl [1, 0] rfl) hw
      · have hw := hw.2 c66
        refine lv_iload_n hx hb px_d138_69 rfl (lv_at hl 0 rfl) ?_
        have hPc := hP.sub (ws' := []) [] rfl
        have hDc := hD.sub (ws' := []) [] (by decide) rfl
        have hKc := hK.sub (tys' := []) [] rfl
        have hFc := va_free (wc := []) hD hS hA [] rfl
        refine va_calli (va_runS (As := [.int z13]) (rest := []) ⟨hx, hb, hml, hown, htw⟩ (w142_met l dC dI H.size z13 _ hw) (cwS 1 htw (px_gs px_w837 px_w848 px_w66 px_g142) rfl rfl rfl (by decide +kernel) ⟨Nat.le_of_ble_eq_true rfl, Nat.le_of_ble_eq_true rfl⟩) ⟨fun a U g mk q => by obtain ⟨q0, q1, qP, qK, qD, qN⟩ := q; exact ⟨q0, q1, qP, va_K.moved (u := U) (U := U.calling g mk a) (Vm.Alike.refl U.vm) qK, qD, qN.same rfl⟩, fun U hU hW => ⟨rfl, by rw [hU], by rw [hU]; exact hPc, va_K.moved hW.alike hKc, hDc.weaken (fun _ _ _ _ => trivial), hN.warm hW⟩⟩ rfl rfl hl.1 rfl (lv_room (Nat.le_of_ble_eq_true rfl)) px_d138_70 ⟨(Nat.le_of_ble_eq_true rfl), (Nat.le_of_ble_eq_true rfl)⟩) hS (fun q _ h => hFc q h) hFc (fun r70 u t H1 locs ht hvm hw hB hz1 hk1 hS => ?_)
        obtain ⟨hP1, hK1, hD1⟩ := hB
        rw [ht] at hP1
        have hK1 := va_K.moved hvm.symm hK1
        obtain ⟨hP, hD⟩ := va_join (wr := [(h0, .inr (5, [.ref q0, .int v7, .int z14, .int v8, .int v10, .int v11])), (q0, .inl (c_s, n_s, .inl v12))]) (w1 := []) hP hD [] [0, 1] rfl rfl (by decide) (by decide) hk1 hFc hP1 hD1
        generalize H1 = H at hP hS ⊢
        have hP : va_P (dC, dI) vwCl [(h0, .inr (5, [.ref q0, .int v7, .int z14, .int v8, .int v10, .int v11])), (q0, .inl (c_s, n_s, .inl v12))] H := hP
        have hD : va_D A [(h0, .inr (5, [.ref q0, .int v7, .int z14, .int v8, .int v10, .int v11])), (q0, .inl (c_s, n_s, .inl v12))] := hD
        refine lv_if_eq (tgt := 84) hx hb px_d138_73 (by decide) (fun c73 => ?_) (fun c73 => ?_)
        · have hw := hw.1 c73
          refine lv_iload_n hx hb px_d138_84 rfl (lv_at hl 0 rfl) ?_
          refine lv_bipush (v := 123) hx hb px_d138_85 (by decide) ?_
          refine lv_icmp_eq (tgt := 114) hx hb px_d138_87 (by decide) (fun c87 => ?_) (fun c87 => ?_)
          · have hw := hw.1 c87
            exact S114 z13 v7 z14 v8 v10 v11 v12 H locs ls hP hD hS (lv_sub hl [1, 0] rfl) hw
          · have hw := hw.2 c87
            refine lv_iload_n hx hb px_d138_90 rfl (lv_at hl 0 rfl) ?_
            refine lv_bipush (v := 125) hx hb px_d138_91 (by decide) ?_
            refine lv_icmp_eq (tgt := 114) hx hb px_d138_93 (by decide) (fun c93 => ?_) (fun c93 => ?_)
            · have hw := hw.1 c93
              exact S114 z13 v7 z14 v8 v10 v11 v12 H locs ls hP hD hS (lv_sub hl [1, 0] rfl) hw
            · have hw := hw.2 c93
              refine lv_iload_n hx hb px_d138_96 rfl (lv_at hl 0 rfl) ?_
              refine lv_bipush (v := 44) hx hb px_d138_97 (by decide) ?_
              refine lv_icmp_eq (tgt := 114) hx hb px_d138_99 (by decide) (fun c99 => ?_) (fun c99 => ?_)
              · have hw := hw.1 c99
                exact S114 z13 v7 z14 v8 v10 v11 v12 H locs ls hP hD hS (lv_sub hl [1, 0] rfl) hw
              · have hw := hw.2 c99
                refine lv_iload_n hx hb px_d138_102 rfl (lv_at hl 0 rfl) ?_
                refine lv_bipush (v := 61) hx hb px_d138_103 (by decide) ?_
                refine lv_icmp_eq (tgt := 114) hx hb px_d138_105 (by decide) (fun c105 => ?_) (fun c105 => ?_)
                · have hw := hw.1 c105
                  exact S114 z13 v7 z14 v8 v10 v11 v12 H locs ls hP hD hS (lv_sub hl [1, 0] rfl) hw
                · have hw := hw.2 c105
                  refine lv_iload_n hx hb px_d138_108 rfl (lv_at hl 0 rfl) ?_
                  refine lv_bipush (v := 59) hx hb px_d138_109 (by decide) ?_
                  refine lv_icmp_ne (tgt := 118) hx hb px_d138_111 (by decide) (fun c111 => ?_) (fun c111 => ?_)
                  · have hw := hw.1 c111
                    refine lv_iconst (v := 0) hx hb px_d138_118 (by decide) ?_
                    exact S119 z13 0 v7 z14 v8 v10 v11 v12 H locs ls hP hD hS (lv_sub hl [1, 0] rfl) hw
                  · have hw := hw.2 c111
                    exact S114 z13 v7 z14 v8 v10 v11 v12 H locs ls hP hD hS (lv_sub hl [1, 0] rfl) hw
        · have hw := hw.2 c73
          exact S76 z13 v7 z14 v8 v10 v11 v12 H locs ls hP hD hS (lv_sub hl [1, 0] rfl) hw
    · have hw := hw.2 c53
      refine lv_aload_n hx hb px_d138_56 rfl (lv_at hl 1 rfl) ?_
      have hPc := hP.sub (ws' := [(h0, .inr (5, [.ref q0, .int v7, .int z14, .int v8, .int v10, .int v11])), (q0, .inl (c_s, n_s, .inl v12))]) [0, 1] rfl
      have hDc := hD.sub (ws' := [(h0, .inr (5, [.ref q0, .int v7, .int z14, .int v8, .int v10, .int v11])), (q0, .inl (c_s, n_s, .inl v12))]) [0, 1] (by decide) rfl
      have hKc := hK.sub (tys' := [(c_s, .byte)]) [0] rfl
      have hFc := va_free (wc := [(h0, .inr (5, [.ref q0, .int v7, .int z14, .int v8, .int v10, .int v11])), (q0, .inl (c_s, n_s, .inl v12))]) hD hS hA [0, 1] rfl
      refine va_callv (va_runV (As := []) (rest := []) ⟨hx, hb, hml, hown, htw⟩ (w141_met l dC dI H.size h0 q0 n_s c_s v7 z14 v8 v10 v11 v12 _ hw) (cwV 0 htw (px_gv px_w836 px_w845 px_w846 px_w66 px_g141) rfl rfl rfl (by decide +kernel) ⟨Nat.le_of_ble_eq_true rfl, Nat.le_of_ble_eq_true rfl⟩) ⟨fun a U g mk q => by obtain ⟨q0, q1, qP, qK, qD, qN⟩ := q; exact ⟨q0, q1, qP, va_K.moved (u := U) (U := U.calling g mk a) (Vm.Alike.refl U.vm) qK, qD, qN.same rfl⟩, va_recv hK hP (ci := 5) (q0 := 0) rfl rfl, fun U hU hW => ⟨rfl, by rw [hU], by rw [hU]; exact hPc, va_K.moved hW.alike hKc, hDc.weaken (fun _ _ _ _ => trivial), hN.warm hW⟩⟩ rfl rfl hl.1 rfl (lv_room (Nat.le_of_ble_eq_true rfl)) px_d138_57 ⟨(Nat.le_of_ble_eq_true rfl), (Nat.le_of_ble_eq_true rfl)⟩) hS (fun q _ h => hFc q h) hFc (fun u t H1 locs ht hvm hw hB hz1 hk1 hS => ?_)
      obtain ⟨v15, v16, v17, v18, v19, v20⟩ := u
      obtain ⟨hP1, hK1, hD1⟩ := hB
      rw [ht] at hP1
      have hK1 := va_K.moved hvm.symm hK1
      obtain ⟨hP, hD⟩ := va_join (wr := []) (w1 := [(h0, .inr (5, [.ref q0, .int v15, .int v16, .int v17, .int v18, .int v19])), (q0, .inl (c_s, n_s, .inl v20))]) hP hD [0, 1] [] rfl rfl (by decide) (by decide) hk1 hFc hP1 hD1
      generalize H1 = H at hP hS ⊢
      have hP : va_P (dC, dI) vwCl [(h0, .inr (5, [.ref q0, .int v15, .int v16, .int v17, .int v18, .int v19])), (q0, .inl (c_s, n_s, .inl v20))] H := hP
      have hD : va_D A [(h0, .inr (5, [.ref q0, .int v15, .int v16, .int v17, .int v18, .int v19])), (q0, .inl (c_s, n_s, .inl v20))] := hD
      refine lv_goto (tgt := 133) hx hb px_d138_60 (by decide) ?_
      exact S133 z13 v15 v16 v17 v18 v19 v20 H locs ls hP hD hS (lv_sub hl [1, 0] rfl) hw
  · have hw := hw.2 c20
    refine lv_aload_n hx hb px_d138_23 rfl (lv_at hl 0 rfl) ?_
    refine lv_iconst (v := 0) hx hb px_d138_24 (by decide) ?_
    refine va_put (D := (dC, dI)) (ci := 5) (v := .int 0) (ty := .int) (C := "MatroidDesk$Tokens") (T := px_T5) (N := 6) hx hb htw px_in5 px_ty5 px_tyok5 px_nm5 hown hK hP hD hS 0 rfl rfl 4 (by decide) (htw _ px_w834) (fun _ h9 => h9) rfl (by decide +kernel) rfl rfl (Nat.le_of_ble_eq_true rfl) px_d138_25 (fun H locs hP hD hS => ?_)
    have hP : va_P (dC, dI) vwCl [(h0, .inr (5, [.ref q0, .int v7, .int v8, .int v8, .int 0, .int v11])), (q0, .inl (c_s, n_s, .inl v12))] H := hP
    have hD : va_D A [(h0, .inr (5, [.ref q0, .int v7, .int v8, .int v8, .int 0, .int v11])), (q0, .inl (c_s, n_s, .inl v12))] := hD
    rw [← hQ]
    exact W.vret hx hb hr (fun t ht hW => ⟨⟨(v7, v8, v8, 0, v11, v12), rfl, hw, by rw [ht]; exact hP, va_K.moved hW.alike hK, hD⟩, hS.F ht⟩) hS.2.2 px_d138_28

